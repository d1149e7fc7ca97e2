section
-- ===== PART A: goes FIRST, ahead of the names: the tables' words, and 'selects' of the private methods out of them =====
/-- a private method of a class that the tables say can be made, by its rows of tables_1 -/
def lw_okq (q : MethodName × Nat) : Prop := (q.1.cls ≠ "java/lang/invoke/MethodHandle" ∧ q.1.cls ≠ "java/lang/invoke/VarHandle") ∧ Cond.instantiable q.1.cls q.2 ∈ tables_1 ∧ Cond.privateMethod q.1 ∈ tables_1 ∧ Cond.instanceMethod q.1 ∈ tables_1
theorem lw_p0 : lw_okq (⟨"CouponDesk$Lot", "pricesIn", "(I)I"⟩, 3) := ⟨⟨by decide +kernel, by decide +kernel⟩, List.mem_of_getElem? (i := 26) (by decide +kernel), List.mem_of_getElem? (i := 190) (by decide +kernel), List.mem_of_getElem? (i := 191) (by decide +kernel)⟩
theorem lw_p1 : lw_okq (⟨"java/lang/Throwable", "fillInStackTrace", "(I)Ljava/lang/Throwable;"⟩, 6) := ⟨⟨by decide +kernel, by decide +kernel⟩, List.mem_of_getElem? (i := 236) (by decide +kernel), List.mem_of_getElem? (i := 234) (by decide +kernel), List.mem_of_getElem? (i := 235) (by decide +kernel)⟩
theorem lw_p2 : lw_okq (⟨"CouponDesk", "needCoupons", "(I)V"⟩, 10) := ⟨⟨by decide +kernel, by decide +kernel⟩, List.mem_of_getElem? (i := 18) (by decide +kernel), List.mem_of_getElem? (i := 271) (by decide +kernel), List.mem_of_getElem? (i := 272) (by decide +kernel)⟩
theorem lw_p3 : lw_okq (⟨"CouponDesk", "isSetAllowed", "(I)Z"⟩, 10) := ⟨⟨by decide +kernel, by decide +kernel⟩, List.mem_of_getElem? (i := 18) (by decide +kernel), List.mem_of_getElem? (i := 276) (by decide +kernel), List.mem_of_getElem? (i := 277) (by decide +kernel)⟩
theorem lw_p4 : lw_okq (⟨"CouponDesk$Coupon", "isUsableFor", "(LCouponDesk$Lot;)Z"⟩, 6) := ⟨⟨by decide +kernel, by decide +kernel⟩, List.mem_of_getElem? (i := 102) (by decide +kernel), List.mem_of_getElem? (i := 283) (by decide +kernel), List.mem_of_getElem? (i := 284) (by decide +kernel)⟩
theorem lw_p5 : lw_okq (⟨"CouponDesk$Coupon", "isReachedBy", "(LCouponDesk$Lot;)Z"⟩, 6) := ⟨⟨by decide +kernel, by decide +kernel⟩, List.mem_of_getElem? (i := 102) (by decide +kernel), List.mem_of_getElem? (i := 287) (by decide +kernel), List.mem_of_getElem? (i := 288) (by decide +kernel)⟩
theorem lw_p6 : lw_okq (⟨"CouponDesk", "isGroupFree", "(II)Z"⟩, 10) := ⟨⟨by decide +kernel, by decide +kernel⟩, List.mem_of_getElem? (i := 18) (by decide +kernel), List.mem_of_getElem? (i := 292) (by decide +kernel), List.mem_of_getElem? (i := 293) (by decide +kernel)⟩
theorem lw_p7 : lw_okq (⟨"CouponDesk", "needAllowed", "(I)V"⟩, 10) := ⟨⟨by decide +kernel, by decide +kernel⟩, List.mem_of_getElem? (i := 18) (by decide +kernel), List.mem_of_getElem? (i := 300) (by decide +kernel), List.mem_of_getElem? (i := 301) (by decide +kernel)⟩
theorem lw_p8 : lw_okq (⟨"CouponDesk", "goodsOf", "(LCouponDesk$Lot;I)I"⟩, 10) := ⟨⟨by decide +kernel, by decide +kernel⟩, List.mem_of_getElem? (i := 18) (by decide +kernel), List.mem_of_getElem? (i := 320) (by decide +kernel), List.mem_of_getElem? (i := 321) (by decide +kernel)⟩
theorem lw_p9 : lw_okq (⟨"CouponDesk", "layAndApply", "(LCouponDesk$Lot;I)V"⟩, 10) := ⟨⟨by decide +kernel, by decide +kernel⟩, List.mem_of_getElem? (i := 18) (by decide +kernel), List.mem_of_getElem? (i := 324) (by decide +kernel), List.mem_of_getElem? (i := 325) (by decide +kernel)⟩
theorem lw_p10 : lw_okq (⟨"CouponDesk$Tray", "lay", "(LCouponDesk$Lot;)V"⟩, 5) := ⟨⟨by decide +kernel, by decide +kernel⟩, List.mem_of_getElem? (i := 53) (by decide +kernel), List.mem_of_getElem? (i := 328) (by decide +kernel), List.mem_of_getElem? (i := 329) (by decide +kernel)⟩
theorem lw_p11 : lw_okq (⟨"CouponDesk$Tray", "apply", "(LCouponDesk$Coupon;I)V"⟩, 5) := ⟨⟨by decide +kernel, by decide +kernel⟩, List.mem_of_getElem? (i := 53) (by decide +kernel), List.mem_of_getElem? (i := 332) (by decide +kernel), List.mem_of_getElem? (i := 333) (by decide +kernel)⟩
theorem lw_p12 : lw_okq (⟨"CouponDesk$Tray", "takePercent", "(LCouponDesk$Coupon;[I)V"⟩, 5) := ⟨⟨by decide +kernel, by decide +kernel⟩, List.mem_of_getElem? (i := 53) (by decide +kernel), List.mem_of_getElem? (i := 336) (by decide +kernel), List.mem_of_getElem? (i := 337) (by decide +kernel)⟩
theorem lw_p13 : lw_okq (⟨"CouponDesk$Coupon", "isMatchedBy", "(I)Z"⟩, 6) := ⟨⟨by decide +kernel, by decide +kernel⟩, List.mem_of_getElem? (i := 102) (by decide +kernel), List.mem_of_getElem? (i := 340) (by decide +kernel), List.mem_of_getElem? (i := 341) (by decide +kernel)⟩
theorem lw_p14 : lw_okq (⟨"CouponDesk$Tray", "takeAmount", "(LCouponDesk$Coupon;[I)V"⟩, 5) := ⟨⟨by decide +kernel, by decide +kernel⟩, List.mem_of_getElem? (i := 53) (by decide +kernel), List.mem_of_getElem? (i := 344) (by decide +kernel), List.mem_of_getElem? (i := 345) (by decide +kernel)⟩
theorem lw_p15 : lw_okq (⟨"CouponDesk$Tray", "matchedRests", "(LCouponDesk$Coupon;[I)I"⟩, 5) := ⟨⟨by decide +kernel, by decide +kernel⟩, List.mem_of_getElem? (i := 53) (by decide +kernel), List.mem_of_getElem? (i := 348) (by decide +kernel), List.mem_of_getElem? (i := 349) (by decide +kernel)⟩
def lw_privs_1 : List (MethodName × Nat) := [(⟨"CouponDesk$Lot", "pricesIn", "(I)I"⟩, 3), (⟨"java/lang/Throwable", "fillInStackTrace", "(I)Ljava/lang/Throwable;"⟩, 6), (⟨"CouponDesk", "needCoupons", "(I)V"⟩, 10), (⟨"CouponDesk", "isSetAllowed", "(I)Z"⟩, 10), (⟨"CouponDesk$Coupon", "isUsableFor", "(LCouponDesk$Lot;)Z"⟩, 6), (⟨"CouponDesk$Coupon", "isReachedBy", "(LCouponDesk$Lot;)Z"⟩, 6), (⟨"CouponDesk", "isGroupFree", "(II)Z"⟩, 10), (⟨"CouponDesk", "needAllowed", "(I)V"⟩, 10), (⟨"CouponDesk", "goodsOf", "(LCouponDesk$Lot;I)I"⟩, 10), (⟨"CouponDesk", "layAndApply", "(LCouponDesk$Lot;I)V"⟩, 10), (⟨"CouponDesk$Tray", "lay", "(LCouponDesk$Lot;)V"⟩, 5), (⟨"CouponDesk$Tray", "apply", "(LCouponDesk$Coupon;I)V"⟩, 5), (⟨"CouponDesk$Tray", "takePercent", "(LCouponDesk$Coupon;[I)V"⟩, 5), (⟨"CouponDesk$Coupon", "isMatchedBy", "(I)Z"⟩, 6), (⟨"CouponDesk$Tray", "takeAmount", "(LCouponDesk$Coupon;[I)V"⟩, 5), (⟨"CouponDesk$Tray", "matchedRests", "(LCouponDesk$Coupon;[I)I"⟩, 5)]
theorem lw_r1 : ∀ q ∈ lw_privs_1, lw_okq q := List.forall_mem_cons.mpr ⟨lw_p0, List.forall_mem_cons.mpr ⟨lw_p1, List.forall_mem_cons.mpr ⟨lw_p2, List.forall_mem_cons.mpr ⟨lw_p3, List.forall_mem_cons.mpr ⟨lw_p4, List.forall_mem_cons.mpr ⟨lw_p5, List.forall_mem_cons.mpr ⟨lw_p6, List.forall_mem_cons.mpr ⟨lw_p7, List.forall_mem_cons.mpr ⟨lw_p8, List.forall_mem_cons.mpr ⟨lw_p9, List.forall_mem_cons.mpr ⟨lw_p10, List.forall_mem_cons.mpr ⟨lw_p11, List.forall_mem_cons.mpr ⟨lw_p12, List.forall_mem_cons.mpr ⟨lw_p13, List.forall_mem_cons.mpr ⟨lw_p14, List.forall_mem_cons.mpr ⟨lw_p15, fun _ h => absurd h List.not_mem_nil⟩⟩⟩⟩⟩⟩⟩⟩⟩⟩⟩⟩⟩⟩⟩⟩
theorem lw_p16 : lw_okq (⟨"CouponDesk$Tray", "takeOnes", "(LCouponDesk$Coupon;[II)V"⟩, 5) := ⟨⟨by decide +kernel, by decide +kernel⟩, List.mem_of_getElem? (i := 53) (by decide +kernel), List.mem_of_getElem? (i := 355) (by decide +kernel), List.mem_of_getElem? (i := 356) (by decide +kernel)⟩
theorem lw_p17 : lw_okq (⟨"CouponDesk$Tray", "takeBundles", "(LCouponDesk$Coupon;[I)V"⟩, 5) := ⟨⟨by decide +kernel, by decide +kernel⟩, List.mem_of_getElem? (i := 53) (by decide +kernel), List.mem_of_getElem? (i := 359) (by decide +kernel), List.mem_of_getElem? (i := 360) (by decide +kernel)⟩
theorem lw_p18 : lw_okq (⟨"CouponDesk$Tray", "rankMatched", "(LCouponDesk$Coupon;[I)I"⟩, 5) := ⟨⟨by decide +kernel, by decide +kernel⟩, List.mem_of_getElem? (i := 53) (by decide +kernel), List.mem_of_getElem? (i := 363) (by decide +kernel), List.mem_of_getElem? (i := 364) (by decide +kernel)⟩
theorem lw_p19 : lw_okq (⟨"CouponDesk$Tray", "restsInRow", "(I)I"⟩, 5) := ⟨⟨by decide +kernel, by decide +kernel⟩, List.mem_of_getElem? (i := 53) (by decide +kernel), List.mem_of_getElem? (i := 367) (by decide +kernel), List.mem_of_getElem? (i := 368) (by decide +kernel)⟩
theorem lw_p20 : lw_okq (⟨"CouponDesk", "feeFor", "(II)I"⟩, 10) := ⟨⟨by decide +kernel, by decide +kernel⟩, List.mem_of_getElem? (i := 18) (by decide +kernel), List.mem_of_getElem? (i := 375) (by decide +kernel), List.mem_of_getElem? (i := 376) (by decide +kernel)⟩
theorem lw_p21 : lw_okq (⟨"CouponDesk$Lot", "countOfPieces", "()I"⟩, 3) := ⟨⟨by decide +kernel, by decide +kernel⟩, List.mem_of_getElem? (i := 26) (by decide +kernel), List.mem_of_getElem? (i := 379) (by decide +kernel), List.mem_of_getElem? (i := 380) (by decide +kernel)⟩
theorem lw_p22 : lw_okq (⟨"CouponDesk", "hasFreight", "(I)Z"⟩, 10) := ⟨⟨by decide +kernel, by decide +kernel⟩, List.mem_of_getElem? (i := 18) (by decide +kernel), List.mem_of_getElem? (i := 383) (by decide +kernel), List.mem_of_getElem? (i := 384) (by decide +kernel)⟩
theorem lw_p23 : lw_okq (⟨"CouponDesk", "searchSets", "(I)V"⟩, 10) := ⟨⟨by decide +kernel, by decide +kernel⟩, List.mem_of_getElem? (i := 18) (by decide +kernel), List.mem_of_getElem? (i := 391) (by decide +kernel), List.mem_of_getElem? (i := 392) (by decide +kernel)⟩
theorem lw_p24 : lw_okq (⟨"CouponDesk", "usableForBasket", "()I"⟩, 10) := ⟨⟨by decide +kernel, by decide +kernel⟩, List.mem_of_getElem? (i := 18) (by decide +kernel), List.mem_of_getElem? (i := 395) (by decide +kernel), List.mem_of_getElem? (i := 396) (by decide +kernel)⟩
theorem lw_p25 : lw_okq (⟨"CouponDesk$Search", "begin", "(II)V"⟩, 5) := ⟨⟨by decide +kernel, by decide +kernel⟩, List.mem_of_getElem? (i := 77) (by decide +kernel), List.mem_of_getElem? (i := 399) (by decide +kernel), List.mem_of_getElem? (i := 400) (by decide +kernel)⟩
theorem lw_p26 : lw_okq (⟨"CouponDesk$Search", "offer", "(II)V"⟩, 5) := ⟨⟨by decide +kernel, by decide +kernel⟩, List.mem_of_getElem? (i := 77) (by decide +kernel), List.mem_of_getElem? (i := 406) (by decide +kernel), List.mem_of_getElem? (i := 407) (by decide +kernel)⟩
theorem lw_p27 : lw_okq (⟨"CouponDesk$Search", "isBetter", "(II)Z"⟩, 5) := ⟨⟨by decide +kernel, by decide +kernel⟩, List.mem_of_getElem? (i := 77) (by decide +kernel), List.mem_of_getElem? (i := 411) (by decide +kernel), List.mem_of_getElem? (i := 412) (by decide +kernel)⟩
theorem lw_p28 : lw_okq (⟨"CouponDesk$Tray", "copyRow", "(II)V"⟩, 5) := ⟨⟨by decide +kernel, by decide +kernel⟩, List.mem_of_getElem? (i := 53) (by decide +kernel), List.mem_of_getElem? (i := 421) (by decide +kernel), List.mem_of_getElem? (i := 422) (by decide +kernel)⟩
theorem lw_p29 : lw_okq (⟨"CouponDesk$Order", "become", "(LCouponDesk$Lot;III)V"⟩, 4) := ⟨⟨by decide +kernel, by decide +kernel⟩, List.mem_of_getElem? (i := 131) (by decide +kernel), List.mem_of_getElem? (i := 434) (by decide +kernel), List.mem_of_getElem? (i := 435) (by decide +kernel)⟩
theorem lw_p30 : lw_okq (⟨"CouponDesk$Lot", "copyFrom", "(LCouponDesk$Lot;)V"⟩, 3) := ⟨⟨by decide +kernel, by decide +kernel⟩, List.mem_of_getElem? (i := 26) (by decide +kernel), List.mem_of_getElem? (i := 438) (by decide +kernel), List.mem_of_getElem? (i := 439) (by decide +kernel)⟩
theorem lw_p31 : lw_okq (⟨"CouponDesk", "useUp", "(I)V"⟩, 10) := ⟨⟨by decide +kernel, by decide +kernel⟩, List.mem_of_getElem? (i := 18) (by decide +kernel), List.mem_of_getElem? (i := 443) (by decide +kernel), List.mem_of_getElem? (i := 444) (by decide +kernel)⟩
def lw_privs_2 : List (MethodName × Nat) := [(⟨"CouponDesk$Tray", "takeOnes", "(LCouponDesk$Coupon;[II)V"⟩, 5), (⟨"CouponDesk$Tray", "takeBundles", "(LCouponDesk$Coupon;[I)V"⟩, 5), (⟨"CouponDesk$Tray", "rankMatched", "(LCouponDesk$Coupon;[I)I"⟩, 5), (⟨"CouponDesk$Tray", "restsInRow", "(I)I"⟩, 5), (⟨"CouponDesk", "feeFor", "(II)I"⟩, 10), (⟨"CouponDesk$Lot", "countOfPieces", "()I"⟩, 3), (⟨"CouponDesk", "hasFreight", "(I)Z"⟩, 10), (⟨"CouponDesk", "searchSets", "(I)V"⟩, 10), (⟨"CouponDesk", "usableForBasket", "()I"⟩, 10), (⟨"CouponDesk$Search", "begin", "(II)V"⟩, 5), (⟨"CouponDesk$Search", "offer", "(II)V"⟩, 5), (⟨"CouponDesk$Search", "isBetter", "(II)Z"⟩, 5), (⟨"CouponDesk$Tray", "copyRow", "(II)V"⟩, 5), (⟨"CouponDesk$Order", "become", "(LCouponDesk$Lot;III)V"⟩, 4), (⟨"CouponDesk$Lot", "copyFrom", "(LCouponDesk$Lot;)V"⟩, 3), (⟨"CouponDesk", "useUp", "(I)V"⟩, 10)]
theorem lw_r2 : ∀ q ∈ lw_privs_2, lw_okq q := List.forall_mem_cons.mpr ⟨lw_p16, List.forall_mem_cons.mpr ⟨lw_p17, List.forall_mem_cons.mpr ⟨lw_p18, List.forall_mem_cons.mpr ⟨lw_p19, List.forall_mem_cons.mpr ⟨lw_p20, List.forall_mem_cons.mpr ⟨lw_p21, List.forall_mem_cons.mpr ⟨lw_p22, List.forall_mem_cons.mpr ⟨lw_p23, List.forall_mem_cons.mpr ⟨lw_p24, List.forall_mem_cons.mpr ⟨lw_p25, List.forall_mem_cons.mpr ⟨lw_p26, List.forall_mem_cons.mpr ⟨lw_p27, List.forall_mem_cons.mpr ⟨lw_p28, List.forall_mem_cons.mpr ⟨lw_p29, List.forall_mem_cons.mpr ⟨lw_p30, List.forall_mem_cons.mpr ⟨lw_p31, fun _ h => absurd h List.not_mem_nil⟩⟩⟩⟩⟩⟩⟩⟩⟩⟩⟩⟩⟩⟩⟩⟩
theorem lw_p32 : lw_okq (⟨"CouponDesk$Lot", "removeAllPieces", "()V"⟩, 3) := ⟨⟨by decide +kernel, by decide +kernel⟩, List.mem_of_getElem? (i := 26) (by decide +kernel), List.mem_of_getElem? (i := 447) (by decide +kernel), List.mem_of_getElem? (i := 448) (by decide +kernel)⟩
theorem lw_p33 : lw_okq (⟨"CouponDesk", "needOrder", "(I)V"⟩, 10) := ⟨⟨by decide +kernel, by decide +kernel⟩, List.mem_of_getElem? (i := 18) (by decide +kernel), List.mem_of_getElem? (i := 458) (by decide +kernel), List.mem_of_getElem? (i := 459) (by decide +kernel)⟩
theorem lw_p34 : lw_okq (⟨"CouponDesk", "needArticle", "(I)V"⟩, 10) := ⟨⟨by decide +kernel, by decide +kernel⟩, List.mem_of_getElem? (i := 18) (by decide +kernel), List.mem_of_getElem? (i := 478) (by decide +kernel), List.mem_of_getElem? (i := 479) (by decide +kernel)⟩
theorem lw_p35 : lw_okq (⟨"CouponDesk", "stillReached", "(LCouponDesk$Order;)I"⟩, 10) := ⟨⟨by decide +kernel, by decide +kernel⟩, List.mem_of_getElem? (i := 18) (by decide +kernel), List.mem_of_getElem? (i := 484) (by decide +kernel), List.mem_of_getElem? (i := 485) (by decide +kernel)⟩
theorem lw_p36 : lw_okq (⟨"CouponDesk$Order", "tell", "(I)I"⟩, 4) := ⟨⟨by decide +kernel, by decide +kernel⟩, List.mem_of_getElem? (i := 131) (by decide +kernel), List.mem_of_getElem? (i := 494) (by decide +kernel), List.mem_of_getElem? (i := 495) (by decide +kernel)⟩
theorem lw_p37 : lw_okq (⟨"CouponDesk$Coupon", "become", "(IIIII)V"⟩, 6) := ⟨⟨by decide +kernel, by decide +kernel⟩, List.mem_of_getElem? (i := 102) (by decide +kernel), List.mem_of_getElem? (i := 543) (by decide +kernel), List.mem_of_getElem? (i := 544) (by decide +kernel)⟩
def lw_privs_3 : List (MethodName × Nat) := [(⟨"CouponDesk$Lot", "removeAllPieces", "()V"⟩, 3), (⟨"CouponDesk", "needOrder", "(I)V"⟩, 10), (⟨"CouponDesk", "needArticle", "(I)V"⟩, 10), (⟨"CouponDesk", "stillReached", "(LCouponDesk$Order;)I"⟩, 10), (⟨"CouponDesk$Order", "tell", "(I)I"⟩, 4), (⟨"CouponDesk$Coupon", "become", "(IIIII)V"⟩, 6)]
theorem lw_r3 : ∀ q ∈ lw_privs_3, lw_okq q := List.forall_mem_cons.mpr ⟨lw_p32, List.forall_mem_cons.mpr ⟨lw_p33, List.forall_mem_cons.mpr ⟨lw_p34, List.forall_mem_cons.mpr ⟨lw_p35, List.forall_mem_cons.mpr ⟨lw_p36, List.forall_mem_cons.mpr ⟨lw_p37, fun _ h => absurd h List.not_mem_nil⟩⟩⟩⟩⟩⟩
def lw_privs : List (MethodName × Nat) := lw_privs_1 ++ (lw_privs_2 ++ (lw_privs_3))
def lw_tbl : List Cond := k2_sels lw_privs ++ tables_1
theorem lw_privs_ok : ∀ q ∈ lw_privs, lw_okq q := by
  show ∀ q ∈ lw_privs_1 ++ (lw_privs_2 ++ (lw_privs_3)), lw_okq q
  exact List.forall_mem_append.mpr ⟨lw_r1, List.forall_mem_append.mpr ⟨lw_r2, lw_r3⟩⟩
end
section
def RX0 : String := "CouponDesk$Coupon"
def TX0 : u_T := fun k => match k with
  | 0 => ("CouponDesk$Coupon", "kind", "I", false)
  | 1 => ("CouponDesk$Coupon", "value", "I", false)
  | 2 => ("CouponDesk$Coupon", "categories", "I", false)
  | 3 => ("CouponDesk$Coupon", "minimum", "I", false)
  | 4 => ("CouponDesk$Coupon", "group", "I", false)
  | _ => ("CouponDesk$Coupon", "uses", "I", false)
def tyX0 : Nat → FieldType := fun k => match k with
  | 0 => .int
  | 1 => .int
  | 2 => .int
  | 3 => .int
  | 4 => .int
  | _ => .int
abbrev wsX00 : List Cond := u_ws RX0 TX0 6
theorem nmX0 : ∀ a, a < 6 → ∀ b, b < 6 → a ≠ b → (TX0 a).2.1 ≠ (TX0 b).2.1 := by decide +kernel
theorem tyX0_ok : ∀ k, k < 6 → parseFieldDescriptor (TX0 k).2.2.1 = some (tyX0 k) := by decide +kernel
abbrev cX0_init : ByteArray := prog_2_method_1_code
def yX0_init : MethodName := ⟨RX0, "<init>", "()V"⟩
abbrev cX0_become : ByteArray := prog_2_method_2_code
def yX0_become : MethodName := ⟨RX0, "become", "(IIIII)V"⟩
abbrev cX0_isMatchedBy : ByteArray := prog_2_method_3_code
def yX0_isMatchedBy : MethodName := ⟨RX0, "isMatchedBy", "(I)Z"⟩
abbrev cX0_isReachedBy : ByteArray := prog_2_method_4_code
def yX0_isReachedBy : MethodName := ⟨RX0, "isReachedBy", "(LCouponDesk$Lot;)Z"⟩
abbrev cX0_isUsableFor : ByteArray := prog_2_method_5_code
def yX0_isUsableFor : MethodName := ⟨RX0, "isUsableFor", "(LCouponDesk$Lot;)Z"⟩
def RX1 : String := "CouponDesk$Lot"
def TX1 : u_T := fun k => match k with
  | 0 => ("CouponDesk$Lot", "prices", "[I", true)
  | 1 => ("CouponDesk$Lot", "categories", "[I", true)
  | _ => ("CouponDesk$Lot", "counts", "[I", true)
def tyX1 : Nat → FieldType := fun k => match k with
  | 0 => .array .int
  | 1 => .array .int
  | _ => .array .int
abbrev wsX10 : List Cond := u_ws RX1 TX1 3
theorem nmX1 : ∀ a, a < 3 → ∀ b, b < 3 → a ≠ b → (TX1 a).2.1 ≠ (TX1 b).2.1 := by decide +kernel
theorem tyX1_ok : ∀ k, k < 3 → parseFieldDescriptor (TX1 k).2.2.1 = some (tyX1 k) := by decide +kernel
abbrev cX1_init : ByteArray := prog_3_method_1_code
def yX1_init : MethodName := ⟨RX1, "<init>", "()V"⟩
abbrev cX1_pricesIn : ByteArray := prog_3_method_2_code
def yX1_pricesIn : MethodName := ⟨RX1, "pricesIn", "(I)I"⟩
abbrev cX1_countOfPieces : ByteArray := prog_3_method_3_code
def yX1_countOfPieces : MethodName := ⟨RX1, "countOfPieces", "()I"⟩
abbrev cX1_copyFrom : ByteArray := prog_3_method_4_code
def yX1_copyFrom : MethodName := ⟨RX1, "copyFrom", "(LCouponDesk$Lot;)V"⟩
abbrev cX1_removeAllPieces : ByteArray := prog_3_method_5_code
def yX1_removeAllPieces : MethodName := ⟨RX1, "removeAllPieces", "()V"⟩
def RX2 : String := "CouponDesk$Order"
def TX2 : u_T := fun k => match k with
  | 0 => ("CouponDesk$Order", "lot", "LCouponDesk$Lot;", true)
  | 1 => ("CouponDesk$Order", "acting", "I", false)
  | 2 => ("CouponDesk$Order", "fee", "I", false)
  | _ => ("CouponDesk$Order", "paid", "I", false)
def tyX2 : Nat → FieldType := fun k => match k with
  | 0 => .object "CouponDesk$Lot"
  | 1 => .int
  | 2 => .int
  | _ => .int
abbrev wsX20 : List Cond := u_ws RX2 TX2 4
theorem nmX2 : ∀ a, a < 4 → ∀ b, b < 4 → a ≠ b → (TX2 a).2.1 ≠ (TX2 b).2.1 := by decide +kernel
theorem tyX2_ok : ∀ k, k < 4 → parseFieldDescriptor (TX2 k).2.2.1 = some (tyX2 k) := by decide +kernel
abbrev cX2_init : ByteArray := prog_4_method_1_code
def yX2_init : MethodName := ⟨RX2, "<init>", "()V"⟩
abbrev cX2_become : ByteArray := prog_4_method_2_code
def yX2_become : MethodName := ⟨RX2, "become", "(LCouponDesk$Lot;III)V"⟩
abbrev cX2_tell : ByteArray := prog_4_method_3_code
def yX2_tell : MethodName := ⟨RX2, "tell", "(I)I"⟩
def RX3 : String := "CouponDesk$Search"
def TX3 : u_T := fun k => match k with
  | 0 => ("CouponDesk$Search", "leftOut", "I", false)
  | 1 => ("CouponDesk$Search", "usable", "I", false)
  | 2 => ("CouponDesk$Search", "bestSet", "I", false)
  | 3 => ("CouponDesk$Search", "leastTotal", "I", false)
  | _ => ("CouponDesk$Search", "leastWithout", "I", false)
def tyX3 : Nat → FieldType := fun k => match k with
  | 0 => .int
  | 1 => .int
  | 2 => .int
  | 3 => .int
  | _ => .int
abbrev wsX30 : List Cond := u_ws RX3 TX3 5
theorem nmX3 : ∀ a, a < 5 → ∀ b, b < 5 → a ≠ b → (TX3 a).2.1 ≠ (TX3 b).2.1 := by decide +kernel
theorem tyX3_ok : ∀ k, k < 5 → parseFieldDescriptor (TX3 k).2.2.1 = some (tyX3 k) := by decide +kernel
abbrev cX3_init : ByteArray := prog_5_method_1_code
def yX3_init : MethodName := ⟨RX3, "<init>", "()V"⟩
abbrev cX3_begin : ByteArray := prog_5_method_2_code
def yX3_begin : MethodName := ⟨RX3, "begin", "(II)V"⟩
abbrev cX3_offer : ByteArray := prog_5_method_3_code
def yX3_offer : MethodName := ⟨RX3, "offer", "(II)V"⟩
abbrev cX3_isBetter : ByteArray := prog_5_method_4_code
def yX3_isBetter : MethodName := ⟨RX3, "isBetter", "(II)Z"⟩
def RX4 : String := "CouponDesk$Tray"
def TX4 : u_T := fun k => match k with
  | 0 => ("CouponDesk$Tray", "articles", "[I", true)
  | 1 => ("CouponDesk$Tray", "categories", "[I", true)
  | 2 => ("CouponDesk$Tray", "rests", "[[I", true)
  | 3 => ("CouponDesk$Tray", "ranking", "[I", true)
  | _ => ("CouponDesk$Tray", "count", "I", false)
def tyX4 : Nat → FieldType := fun k => match k with
  | 0 => .array .int
  | 1 => .array .int
  | 2 => .array (.array .int)
  | 3 => .array .int
  | _ => .int
abbrev wsX40 : List Cond := u_ws RX4 TX4 5
theorem nmX4 : ∀ a, a < 5 → ∀ b, b < 5 → a ≠ b → (TX4 a).2.1 ≠ (TX4 b).2.1 := by decide +kernel
theorem tyX4_ok : ∀ k, k < 5 → parseFieldDescriptor (TX4 k).2.2.1 = some (tyX4 k) := by decide +kernel
abbrev cX4_init : ByteArray := prog_6_method_1_code
def yX4_init : MethodName := ⟨RX4, "<init>", "()V"⟩
abbrev cX4_lay : ByteArray := prog_6_method_2_code
def yX4_lay : MethodName := ⟨RX4, "lay", "(LCouponDesk$Lot;)V"⟩
abbrev cX4_copyRow : ByteArray := prog_6_method_3_code
def yX4_copyRow : MethodName := ⟨RX4, "copyRow", "(II)V"⟩
abbrev cX4_restsInRow : ByteArray := prog_6_method_4_code
def yX4_restsInRow : MethodName := ⟨RX4, "restsInRow", "(I)I"⟩
abbrev cX4_apply : ByteArray := prog_6_method_6_code
def yX4_apply : MethodName := ⟨RX4, "apply", "(LCouponDesk$Coupon;I)V"⟩
abbrev cX4_takePercent : ByteArray := prog_6_method_7_code
def yX4_takePercent : MethodName := ⟨RX4, "takePercent", "(LCouponDesk$Coupon;[I)V"⟩
abbrev cX4_takeAmount : ByteArray := prog_6_method_8_code
def yX4_takeAmount : MethodName := ⟨RX4, "takeAmount", "(LCouponDesk$Coupon;[I)V"⟩
abbrev cX4_matchedRests : ByteArray := prog_6_method_9_code
def yX4_matchedRests : MethodName := ⟨RX4, "matchedRests", "(LCouponDesk$Coupon;[I)I"⟩
abbrev cX4_takeOnes : ByteArray := prog_6_method_10_code
def yX4_takeOnes : MethodName := ⟨RX4, "takeOnes", "(LCouponDesk$Coupon;[II)V"⟩
abbrev cX4_takeBundles : ByteArray := prog_6_method_11_code
def yX4_takeBundles : MethodName := ⟨RX4, "takeBundles", "(LCouponDesk$Coupon;[I)V"⟩
abbrev cX4_rankMatched : ByteArray := prog_6_method_12_code
def yX4_rankMatched : MethodName := ⟨RX4, "rankMatched", "(LCouponDesk$Coupon;[I)I"⟩
def RX5 : String := "CouponDesk"
def TX5 : u_T := fun k => match k with
  | 0 => ("CouponDesk", "basket", "LCouponDesk$Lot;", true)
  | 1 => ("CouponDesk", "coupons", "[LCouponDesk$Coupon;", true)
  | 2 => ("CouponDesk", "orders", "[LCouponDesk$Order;", true)
  | 3 => ("CouponDesk", "tray", "LCouponDesk$Tray;", true)
  | 4 => ("CouponDesk", "search", "LCouponDesk$Search;", true)
  | 5 => ("CouponDesk", "articleCount", "I", false)
  | 6 => ("CouponDesk", "couponCount", "I", false)
  | 7 => ("CouponDesk", "orderCount", "I", false)
  | 8 => ("CouponDesk", "fee", "I", false)
  | _ => ("CouponDesk", "limit", "I", false)
def tyX5 : Nat → FieldType := fun k => match k with
  | 0 => .object "CouponDesk$Lot"
  | 1 => .array (.object "CouponDesk$Coupon")
  | 2 => .array (.object "CouponDesk$Order")
  | 3 => .object "CouponDesk$Tray"
  | 4 => .object "CouponDesk$Search"
  | 5 => .int
  | 6 => .int
  | 7 => .int
  | 8 => .int
  | _ => .int
abbrev wsX50 : List Cond := u_ws RX5 TX5 10
theorem nmX5 : ∀ a, a < 10 → ∀ b, b < 10 → a ≠ b → (TX5 a).2.1 ≠ (TX5 b).2.1 := by decide +kernel
theorem tyX5_ok : ∀ k, k < 10 → parseFieldDescriptor (TX5 k).2.2.1 = some (tyX5 k) := by decide +kernel
abbrev cX5_init : ByteArray := prog_1_method_1_code
def yX5_init : MethodName := ⟨RX5, "<init>", "()V"⟩
abbrev cX5_addArticle : ByteArray := prog_1_method_2_code
def yX5_addArticle : MethodName := ⟨RX5, "addArticle", "(II)I"⟩
abbrev cX5_put : ByteArray := prog_1_method_4_code
def yX5_put : MethodName := ⟨RX5, "put", "(II)I"⟩
abbrev cX5_value : ByteArray := prog_1_method_5_code
def yX5_value : MethodName := ⟨RX5, "value", "()I"⟩
abbrev cX5_setShipping : ByteArray := prog_1_method_6_code
def yX5_setShipping : MethodName := ⟨RX5, "setShipping", "(II)I"⟩
abbrev cX5_addCoupon : ByteArray := prog_1_method_7_code
def yX5_addCoupon : MethodName := ⟨RX5, "addCoupon", "(IIIII)I"⟩
abbrev cX5_isAllowed : ByteArray := prog_1_method_12_code
def yX5_isAllowed : MethodName := ⟨RX5, "isAllowed", "(I)Z"⟩
abbrev cX5_goods : ByteArray := prog_1_method_13_code
def yX5_goods : MethodName := ⟨RX5, "goods", "(I)I"⟩
abbrev cX5_total : ByteArray := prog_1_method_14_code
def yX5_total : MethodName := ⟨RX5, "total", "(I)I"⟩
abbrev cX5_best : ByteArray := prog_1_method_16_code
def yX5_best : MethodName := ⟨RX5, "best", "()I"⟩
abbrev cX5_buy : ByteArray := prog_1_method_18_code
def yX5_buy : MethodName := ⟨RX5, "buy", "(I)I"⟩
abbrev cX5_giveBack : ByteArray := prog_1_method_19_code
def yX5_giveBack : MethodName := ⟨RX5, "giveBack", "(III)I"⟩
abbrev cX5_order : ByteArray := prog_1_method_21_code
def yX5_order : MethodName := ⟨RX5, "order", "(II)I"⟩
abbrev cX5_pieces : ByteArray := prog_1_method_22_code
def yX5_pieces : MethodName := ⟨RX5, "pieces", "(II)I"⟩
abbrev cX5_needArticle : ByteArray := prog_1_method_25_code
def yX5_needArticle : MethodName := ⟨RX5, "needArticle", "(I)V"⟩
abbrev cX5_needOrder : ByteArray := prog_1_method_27_code
def yX5_needOrder : MethodName := ⟨RX5, "needOrder", "(I)V"⟩
abbrev cX5_needPrice : ByteArray := prog_1_method_28_code
def yX5_needPrice : MethodName := ⟨RX5, "needPrice", "(I)V"⟩
abbrev cX5_needCoupons : ByteArray := prog_1_method_29_code
def yX5_needCoupons : MethodName := ⟨RX5, "needCoupons", "(I)V"⟩
abbrev cX5_needAllowed : ByteArray := prog_1_method_30_code
def yX5_needAllowed : MethodName := ⟨RX5, "needAllowed", "(I)V"⟩
abbrev cX5_isValueOfKind : ByteArray := prog_1_method_31_code
def yX5_isValueOfKind : MethodName := ⟨RX5, "isValueOfKind", "(II)Z"⟩
abbrev cX5_contains : ByteArray := prog_1_method_32_code
def yX5_contains : MethodName := ⟨RX5, "contains", "(II)Z"⟩
abbrev cX5_isSetAllowed : ByteArray := prog_1_method_33_code
def yX5_isSetAllowed : MethodName := ⟨RX5, "isSetAllowed", "(I)Z"⟩
abbrev cX5_isGroupFree : ByteArray := prog_1_method_34_code
def yX5_isGroupFree : MethodName := ⟨RX5, "isGroupFree", "(II)Z"⟩
abbrev cX5_usableForBasket : ByteArray := prog_1_method_35_code
def yX5_usableForBasket : MethodName := ⟨RX5, "usableForBasket", "()I"⟩
abbrev cX5_stillReached : ByteArray := prog_1_method_36_code
def yX5_stillReached : MethodName := ⟨RX5, "stillReached", "(LCouponDesk$Order;)I"⟩
abbrev cX5_useUp : ByteArray := prog_1_method_37_code
def yX5_useUp : MethodName := ⟨RX5, "useUp", "(I)V"⟩
abbrev cX5_layAndApply : ByteArray := prog_1_method_38_code
def yX5_layAndApply : MethodName := ⟨RX5, "layAndApply", "(LCouponDesk$Lot;I)V"⟩
abbrev cX5_goodsOf : ByteArray := prog_1_method_39_code
def yX5_goodsOf : MethodName := ⟨RX5, "goodsOf", "(LCouponDesk$Lot;I)I"⟩
abbrev cX5_feeFor : ByteArray := prog_1_method_40_code
def yX5_feeFor : MethodName := ⟨RX5, "feeFor", "(II)I"⟩
abbrev cX5_hasFreight : ByteArray := prog_1_method_41_code
def yX5_hasFreight : MethodName := ⟨RX5, "hasFreight", "(I)Z"⟩
abbrev cX5_searchSets : ByteArray := prog_1_method_42_code
def yX5_searchSets : MethodName := ⟨RX5, "searchSets", "(I)V"⟩
abbrev cX5_extend : ByteArray := prog_1_method_43_code
def yX5_extend : MethodName := ⟨RX5, "extend", "(LCouponDesk;III)V"⟩
def RX6 : String := "CouponDeskModel"
def TX6 : u_T := fun k => match k with
  | _ => ("", "", "", false)
def tyX6 : Nat → FieldType := fun k => match k with
  | _ => .int
abbrev wsX60 : List Cond := u_ws RX6 TX6 0
theorem nmX6 : ∀ a, a < 0 → ∀ b, b < 0 → a ≠ b → (TX6 a).2.1 ≠ (TX6 b).2.1 := by decide +kernel
theorem tyX6_ok : ∀ k, k < 0 → parseFieldDescriptor (TX6 k).2.2.1 = some (tyX6 k) := by decide +kernel
def RJx145de : String := "java/io/Serializable"
def TJx145de : u_T := fun k => match k with
  | _ => ("", "", "", false)
def tyJx145de : Nat → FieldType := fun k => match k with
  | _ => .int
theorem nmJx145de : ∀ a, a < 0 → ∀ b, b < 0 → a ≠ b → (TJx145de a).2.1 ≠ (TJx145de b).2.1 := by decide +kernel
theorem tyJx145de_ok : ∀ k, k < 0 → parseFieldDescriptor (TJx145de k).2.2.1 = some (tyJx145de k) := by decide +kernel
def RJ6 : String := "java/lang/Integer"
def TJ6 : u_T := fun k => match k with
  | _ => ("", "", "", false)
def tyJ6 : Nat → FieldType := fun k => match k with
  | _ => .int
abbrev wsJ60 : List Cond := u_ws RJ6 TJ6 0
theorem nmJ6 : ∀ a, a < 0 → ∀ b, b < 0 → a ≠ b → (TJ6 a).2.1 ≠ (TJ6 b).2.1 := by decide +kernel
theorem tyJ6_ok : ∀ k, k < 0 → parseFieldDescriptor (TJ6 k).2.2.1 = some (tyJ6 k) := by decide +kernel
abbrev cJ6_bitCount_0f7a4 : ByteArray := prog_13_method_49_code
def yJ6_bitCount_0f7a4 : MethodName := ⟨RJ6, "bitCount", "(I)I"⟩
def RJ9 : String := "java/lang/Math"
def TJ9 : u_T := fun k => match k with
  | _ => ("", "", "", false)
def tyJ9 : Nat → FieldType := fun k => match k with
  | _ => .int
abbrev wsJ90 : List Cond := u_ws RJ9 TJ9 0
theorem nmJ9 : ∀ a, a < 0 → ∀ b, b < 0 → a ≠ b → (TJ9 a).2.1 ≠ (TJ9 b).2.1 := by decide +kernel
theorem tyJ9_ok : ∀ k, k < 0 → parseFieldDescriptor (TJ9 k).2.2.1 = some (tyJ9 k) := by decide +kernel
abbrev cJ9_min_7cf53 : ByteArray := prog_14_method_69_code
def yJ9_min_7cf53 : MethodName := ⟨RJ9, "min", "(II)I"⟩
def RJ0 : String := "java/lang/String"
def TJ0 : u_T := fun k => match k with
  | _ => ("", "", "", false)
def tyJ0 : Nat → FieldType := fun k => match k with
  | _ => .int
abbrev wsJ00 : List Cond := u_ws RJ0 TJ0 0
theorem nmJ0 : ∀ a, a < 0 → ∀ b, b < 0 → a ≠ b → (TJ0 a).2.1 ≠ (TJ0 b).2.1 := by decide +kernel
theorem tyJ0_ok : ∀ k, k < 0 → parseFieldDescriptor (TJ0 k).2.2.1 = some (tyJ0 k) := by decide +kernel
def RJ10 : String := "java/lang/System"
def TJ10 : u_T := fun k => match k with
  | _ => ("", "", "", false)
def tyJ10 : Nat → FieldType := fun k => match k with
  | _ => .int
abbrev wsJ100 : List Cond := u_ws RJ10 TJ10 0
theorem nmJ10 : ∀ a, a < 0 → ∀ b, b < 0 → a ≠ b → (TJ10 a).2.1 ≠ (TJ10 b).2.1 := by decide +kernel
theorem tyJ10_ok : ∀ k, k < 0 → parseFieldDescriptor (TJ10 k).2.2.1 = some (tyJ10 k) := by decide +kernel
def RJ7 : String := "java/util/Arrays"
def TJ7 : u_T := fun k => match k with
  | _ => ("", "", "", false)
def tyJ7 : Nat → FieldType := fun k => match k with
  | _ => .int
abbrev wsJ70 : List Cond := u_ws RJ7 TJ7 0
theorem nmJ7 : ∀ a, a < 0 → ∀ b, b < 0 → a ≠ b → (TJ7 a).2.1 ≠ (TJ7 b).2.1 := by decide +kernel
theorem tyJ7_ok : ∀ k, k < 0 → parseFieldDescriptor (TJ7 k).2.2.1 = some (tyJ7 k) := by decide +kernel
abbrev cJ7_fill_53178 : ByteArray := prog_19_method_103_code
def yJ7_fill_53178 : MethodName := ⟨RJ7, "fill", "([II)V"⟩
def RL : String := "CouponDeskLaw"
abbrev cL_below : ByteArray := method_2_code
def yL_below : MethodName := ⟨RL, "below", "(II)I"⟩
abbrev cL_cell : ByteArray := method_3_code
def yL_cell : MethodName := ⟨RL, "cell", "([II)I"⟩
abbrev cL_build : ByteArray := method_4_code
def yL_build : MethodName := ⟨RL, "build", "(LCouponDesk;[IIII[I[I)[I"⟩
abbrev cL_law : ByteArray := code
def yL_law : MethodName := ⟨RL, "law", "([I)Z"⟩
theorem dX0_init_0 : decode cX0_init 0 = .ok (.aload_n 0, 1) := by decide +kernel
theorem dX0_init_1 : decode cX0_init 1 = .ok (.invokespecial 3, 3) := by decide +kernel
theorem dX0_init_4 : decode cX0_init 4 = .ok (.aload_n 0, 1) := by decide +kernel
theorem dX0_init_5 : decode cX0_init 5 = .ok (.iconst 0, 1) := by decide +kernel
theorem dX0_init_6 : decode cX0_init 6 = .ok (.putfield 9, 3) := by decide +kernel
theorem dX0_init_9 : decode cX0_init 9 = .ok (.aload_n 0, 1) := by decide +kernel
theorem dX0_init_10 : decode cX0_init 10 = .ok (.iconst 0, 1) := by decide +kernel
theorem dX0_init_11 : decode cX0_init 11 = .ok (.putfield 15, 3) := by decide +kernel
theorem dX0_init_14 : decode cX0_init 14 = .ok (.aload_n 0, 1) := by decide +kernel
theorem dX0_init_15 : decode cX0_init 15 = .ok (.iconst 0, 1) := by decide +kernel
theorem dX0_init_16 : decode cX0_init 16 = .ok (.putfield 18, 3) := by decide +kernel
theorem dX0_init_19 : decode cX0_init 19 = .ok (.aload_n 0, 1) := by decide +kernel
theorem dX0_init_20 : decode cX0_init 20 = .ok (.iconst 0, 1) := by decide +kernel
theorem dX0_init_21 : decode cX0_init 21 = .ok (.putfield 21, 3) := by decide +kernel
theorem dX0_init_24 : decode cX0_init 24 = .ok (.aload_n 0, 1) := by decide +kernel
theorem dX0_init_25 : decode cX0_init 25 = .ok (.iconst 0, 1) := by decide +kernel
theorem dX0_init_26 : decode cX0_init 26 = .ok (.putfield 24, 3) := by decide +kernel
theorem dX0_init_29 : decode cX0_init 29 = .ok (.aload_n 0, 1) := by decide +kernel
theorem dX0_init_30 : decode cX0_init 30 = .ok (.iconst 0, 1) := by decide +kernel
theorem dX0_init_31 : decode cX0_init 31 = .ok (.putfield 27, 3) := by decide +kernel
theorem dX0_init_34 : decode cX0_init 34 = .ok (.return_, 1) := by decide +kernel
theorem dX0_become_0 : decode cX0_become 0 = .ok (.aload_n 0, 1) := by decide +kernel
theorem dX0_become_1 : decode cX0_become 1 = .ok (.iload_n 1, 1) := by decide +kernel
theorem dX0_become_2 : decode cX0_become 2 = .ok (.putfield 9, 3) := by decide +kernel
theorem dX0_become_5 : decode cX0_become 5 = .ok (.aload_n 0, 1) := by decide +kernel
theorem dX0_become_6 : decode cX0_become 6 = .ok (.iload_n 2, 1) := by decide +kernel
theorem dX0_become_7 : decode cX0_become 7 = .ok (.putfield 15, 3) := by decide +kernel
theorem dX0_become_10 : decode cX0_become 10 = .ok (.aload_n 0, 1) := by decide +kernel
theorem dX0_become_11 : decode cX0_become 11 = .ok (.iload_n 3, 1) := by decide +kernel
theorem dX0_become_12 : decode cX0_become 12 = .ok (.putfield 18, 3) := by decide +kernel
theorem dX0_become_15 : decode cX0_become 15 = .ok (.aload_n 0, 1) := by decide +kernel
theorem dX0_become_16 : decode cX0_become 16 = .ok (.iload 4, 2) := by decide +kernel
theorem dX0_become_18 : decode cX0_become 18 = .ok (.putfield 21, 3) := by decide +kernel
theorem dX0_become_21 : decode cX0_become 21 = .ok (.aload_n 0, 1) := by decide +kernel
theorem dX0_become_22 : decode cX0_become 22 = .ok (.iload 5, 2) := by decide +kernel
theorem dX0_become_24 : decode cX0_become 24 = .ok (.putfield 24, 3) := by decide +kernel
theorem dX0_become_27 : decode cX0_become 27 = .ok (.aload_n 0, 1) := by decide +kernel
theorem dX0_become_28 : decode cX0_become 28 = .ok (.bipush 9, 2) := by decide +kernel
theorem dX0_become_30 : decode cX0_become 30 = .ok (.putfield 27, 3) := by decide +kernel
theorem dX0_become_33 : decode cX0_become 33 = .ok (.return_, 1) := by decide +kernel
theorem dX0_isMatchedBy_0 : decode cX0_isMatchedBy 0 = .ok (.aload_n 0, 1) := by decide +kernel
theorem dX0_isMatchedBy_1 : decode cX0_isMatchedBy 1 = .ok (.getfield 18, 3) := by decide +kernel
theorem dX0_isMatchedBy_4 : decode cX0_isMatchedBy 4 = .ok (.iload_n 1, 1) := by decide +kernel
theorem dX0_isMatchedBy_5 : decode cX0_isMatchedBy 5 = .ok (.ishr, 1) := by decide +kernel
theorem dX0_isMatchedBy_6 : decode cX0_isMatchedBy 6 = .ok (.iconst 1, 1) := by decide +kernel
theorem dX0_isMatchedBy_7 : decode cX0_isMatchedBy 7 = .ok (.iand, 1) := by decide +kernel
theorem dX0_isMatchedBy_8 : decode cX0_isMatchedBy 8 = .ok (.ifCond .eq 7, 3) := by decide +kernel
theorem dX0_isMatchedBy_11 : decode cX0_isMatchedBy 11 = .ok (.iconst 1, 1) := by decide +kernel
theorem dX0_isMatchedBy_12 : decode cX0_isMatchedBy 12 = .ok (.goto 4, 3) := by decide +kernel
theorem dX0_isMatchedBy_15 : decode cX0_isMatchedBy 15 = .ok (.iconst 0, 1) := by decide +kernel
theorem dX0_isMatchedBy_16 : decode cX0_isMatchedBy 16 = .ok (.ireturn, 1) := by decide +kernel
theorem dX0_isReachedBy_0 : decode cX0_isReachedBy 0 = .ok (.aload_n 1, 1) := by decide +kernel
theorem dX0_isReachedBy_1 : decode cX0_isReachedBy 1 = .ok (.aload_n 0, 1) := by decide +kernel
theorem dX0_isReachedBy_2 : decode cX0_isReachedBy 2 = .ok (.getfield 18, 3) := by decide +kernel
theorem dX0_isReachedBy_5 : decode cX0_isReachedBy 5 = .ok (.invokevirtual 30, 3) := by decide +kernel
theorem dX0_isReachedBy_8 : decode cX0_isReachedBy 8 = .ok (.istore_n 2, 1) := by decide +kernel
theorem dX0_isReachedBy_9 : decode cX0_isReachedBy 9 = .ok (.iload_n 2, 1) := by decide +kernel
theorem dX0_isReachedBy_10 : decode cX0_isReachedBy 10 = .ok (.ifCond .le 15, 3) := by decide +kernel
theorem dX0_isReachedBy_13 : decode cX0_isReachedBy 13 = .ok (.iload_n 2, 1) := by decide +kernel
theorem dX0_isReachedBy_14 : decode cX0_isReachedBy 14 = .ok (.aload_n 0, 1) := by decide +kernel
theorem dX0_isReachedBy_15 : decode cX0_isReachedBy 15 = .ok (.getfield 21, 3) := by decide +kernel
theorem dX0_isReachedBy_18 : decode cX0_isReachedBy 18 = .ok (.if_icmp .lt 7, 3) := by decide +kernel
theorem dX0_isReachedBy_21 : decode cX0_isReachedBy 21 = .ok (.iconst 1, 1) := by decide +kernel
theorem dX0_isReachedBy_22 : decode cX0_isReachedBy 22 = .ok (.goto 4, 3) := by decide +kernel
theorem dX0_isReachedBy_25 : decode cX0_isReachedBy 25 = .ok (.iconst 0, 1) := by decide +kernel
theorem dX0_isReachedBy_26 : decode cX0_isReachedBy 26 = .ok (.ireturn, 1) := by decide +kernel
theorem dX0_isUsableFor_0 : decode cX0_isUsableFor 0 = .ok (.aload_n 0, 1) := by decide +kernel
theorem dX0_isUsableFor_1 : decode cX0_isUsableFor 1 = .ok (.getfield 27, 3) := by decide +kernel
theorem dX0_isUsableFor_4 : decode cX0_isUsableFor 4 = .ok (.ifCond .le 15, 3) := by decide +kernel
theorem dX0_isUsableFor_7 : decode cX0_isUsableFor 7 = .ok (.aload_n 0, 1) := by decide +kernel
theorem dX0_isUsableFor_8 : decode cX0_isUsableFor 8 = .ok (.aload_n 1, 1) := by decide +kernel
theorem dX0_isUsableFor_9 : decode cX0_isUsableFor 9 = .ok (.invokevirtual 36, 3) := by decide +kernel
theorem dX0_isUsableFor_12 : decode cX0_isUsableFor 12 = .ok (.ifCond .eq 7, 3) := by decide +kernel
theorem dX0_isUsableFor_15 : decode cX0_isUsableFor 15 = .ok (.iconst 1, 1) := by decide +kernel
theorem dX0_isUsableFor_16 : decode cX0_isUsableFor 16 = .ok (.goto 4, 3) := by decide +kernel
theorem dX0_isUsableFor_19 : decode cX0_isUsableFor 19 = .ok (.iconst 0, 1) := by decide +kernel
theorem dX0_isUsableFor_20 : decode cX0_isUsableFor 20 = .ok (.ireturn, 1) := by decide +kernel
theorem dX1_init_0 : decode cX1_init 0 = .ok (.aload_n 0, 1) := by decide +kernel
theorem dX1_init_1 : decode cX1_init 1 = .ok (.invokespecial 3, 3) := by decide +kernel
theorem dX1_init_4 : decode cX1_init 4 = .ok (.aload_n 0, 1) := by decide +kernel
theorem dX1_init_5 : decode cX1_init 5 = .ok (.bipush 10, 2) := by decide +kernel
theorem dX1_init_7 : decode cX1_init 7 = .ok (.newarray .int, 2) := by decide +kernel
theorem dX1_init_9 : decode cX1_init 9 = .ok (.putfield 9, 3) := by decide +kernel
theorem dX1_init_12 : decode cX1_init 12 = .ok (.aload_n 0, 1) := by decide +kernel
theorem dX1_init_13 : decode cX1_init 13 = .ok (.bipush 10, 2) := by decide +kernel
theorem dX1_init_15 : decode cX1_init 15 = .ok (.newarray .int, 2) := by decide +kernel
theorem dX1_init_17 : decode cX1_init 17 = .ok (.putfield 15, 3) := by decide +kernel
theorem dX1_init_20 : decode cX1_init 20 = .ok (.aload_n 0, 1) := by decide +kernel
theorem dX1_init_21 : decode cX1_init 21 = .ok (.bipush 10, 2) := by decide +kernel
theorem dX1_init_23 : decode cX1_init 23 = .ok (.newarray .int, 2) := by decide +kernel
theorem dX1_init_25 : decode cX1_init 25 = .ok (.putfield 18, 3) := by decide +kernel
theorem dX1_init_28 : decode cX1_init 28 = .ok (.return_, 1) := by decide +kernel
theorem dX1_pricesIn_0 : decode cX1_pricesIn 0 = .ok (.iconst 0, 1) := by decide +kernel
theorem dX1_pricesIn_1 : decode cX1_pricesIn 1 = .ok (.istore_n 2, 1) := by decide +kernel
theorem dX1_pricesIn_2 : decode cX1_pricesIn 2 = .ok (.iconst 0, 1) := by decide +kernel
theorem dX1_pricesIn_3 : decode cX1_pricesIn 3 = .ok (.istore_n 3, 1) := by decide +kernel
theorem dX1_pricesIn_4 : decode cX1_pricesIn 4 = .ok (.iload_n 3, 1) := by decide +kernel
theorem dX1_pricesIn_5 : decode cX1_pricesIn 5 = .ok (.bipush 10, 2) := by decide +kernel
theorem dX1_pricesIn_7 : decode cX1_pricesIn 7 = .ok (.if_icmp .ge 38, 3) := by decide +kernel
theorem dX1_pricesIn_10 : decode cX1_pricesIn 10 = .ok (.iload_n 1, 1) := by decide +kernel
theorem dX1_pricesIn_11 : decode cX1_pricesIn 11 = .ok (.aload_n 0, 1) := by decide +kernel
theorem dX1_pricesIn_12 : decode cX1_pricesIn 12 = .ok (.getfield 15, 3) := by decide +kernel
theorem dX1_pricesIn_15 : decode cX1_pricesIn 15 = .ok (.iload_n 3, 1) := by decide +kernel
theorem dX1_pricesIn_16 : decode cX1_pricesIn 16 = .ok (.iaload, 1) := by decide +kernel
theorem dX1_pricesIn_17 : decode cX1_pricesIn 17 = .ok (.ishr, 1) := by decide +kernel
theorem dX1_pricesIn_18 : decode cX1_pricesIn 18 = .ok (.iconst 1, 1) := by decide +kernel
theorem dX1_pricesIn_19 : decode cX1_pricesIn 19 = .ok (.iand, 1) := by decide +kernel
theorem dX1_pricesIn_20 : decode cX1_pricesIn 20 = .ok (.ifCond .eq 19, 3) := by decide +kernel
theorem dX1_pricesIn_23 : decode cX1_pricesIn 23 = .ok (.iload_n 2, 1) := by decide +kernel
theorem dX1_pricesIn_24 : decode cX1_pricesIn 24 = .ok (.aload_n 0, 1) := by decide +kernel
theorem dX1_pricesIn_25 : decode cX1_pricesIn 25 = .ok (.getfield 9, 3) := by decide +kernel
theorem dX1_pricesIn_28 : decode cX1_pricesIn 28 = .ok (.iload_n 3, 1) := by decide +kernel
theorem dX1_pricesIn_29 : decode cX1_pricesIn 29 = .ok (.iaload, 1) := by decide +kernel
theorem dX1_pricesIn_30 : decode cX1_pricesIn 30 = .ok (.aload_n 0, 1) := by decide +kernel
theorem dX1_pricesIn_31 : decode cX1_pricesIn 31 = .ok (.getfield 18, 3) := by decide +kernel
theorem dX1_pricesIn_34 : decode cX1_pricesIn 34 = .ok (.iload_n 3, 1) := by decide +kernel
theorem dX1_pricesIn_35 : decode cX1_pricesIn 35 = .ok (.iaload, 1) := by decide +kernel
theorem dX1_pricesIn_36 : decode cX1_pricesIn 36 = .ok (.imul, 1) := by decide +kernel
theorem dX1_pricesIn_37 : decode cX1_pricesIn 37 = .ok (.iadd, 1) := by decide +kernel
theorem dX1_pricesIn_38 : decode cX1_pricesIn 38 = .ok (.istore_n 2, 1) := by decide +kernel
theorem dX1_pricesIn_39 : decode cX1_pricesIn 39 = .ok (.iinc 3 1, 3) := by decide +kernel
theorem dX1_pricesIn_42 : decode cX1_pricesIn 42 = .ok (.goto (-38), 3) := by decide +kernel
theorem dX1_pricesIn_45 : decode cX1_pricesIn 45 = .ok (.iload_n 2, 1) := by decide +kernel
theorem dX1_pricesIn_46 : decode cX1_pricesIn 46 = .ok (.ireturn, 1) := by decide +kernel
theorem dX1_countOfPieces_0 : decode cX1_countOfPieces 0 = .ok (.iconst 0, 1) := by decide +kernel
theorem dX1_countOfPieces_1 : decode cX1_countOfPieces 1 = .ok (.istore_n 1, 1) := by decide +kernel
theorem dX1_countOfPieces_2 : decode cX1_countOfPieces 2 = .ok (.iconst 0, 1) := by decide +kernel
theorem dX1_countOfPieces_3 : decode cX1_countOfPieces 3 = .ok (.istore_n 2, 1) := by decide +kernel
theorem dX1_countOfPieces_4 : decode cX1_countOfPieces 4 = .ok (.iload_n 2, 1) := by decide +kernel
theorem dX1_countOfPieces_5 : decode cX1_countOfPieces 5 = .ok (.bipush 10, 2) := by decide +kernel
theorem dX1_countOfPieces_7 : decode cX1_countOfPieces 7 = .ok (.if_icmp .ge 18, 3) := by decide +kernel
theorem dX1_countOfPieces_10 : decode cX1_countOfPieces 10 = .ok (.iload_n 1, 1) := by decide +kernel
theorem dX1_countOfPieces_11 : decode cX1_countOfPieces 11 = .ok (.aload_n 0, 1) := by decide +kernel
theorem dX1_countOfPieces_12 : decode cX1_countOfPieces 12 = .ok (.getfield 18, 3) := by decide +kernel
theorem dX1_countOfPieces_15 : decode cX1_countOfPieces 15 = .ok (.iload_n 2, 1) := by decide +kernel
theorem dX1_countOfPieces_16 : decode cX1_countOfPieces 16 = .ok (.iaload, 1) := by decide +kernel
theorem dX1_countOfPieces_17 : decode cX1_countOfPieces 17 = .ok (.iadd, 1) := by decide +kernel
theorem dX1_countOfPieces_18 : decode cX1_countOfPieces 18 = .ok (.istore_n 1, 1) := by decide +kernel
theorem dX1_countOfPieces_19 : decode cX1_countOfPieces 19 = .ok (.iinc 2 1, 3) := by decide +kernel
theorem dX1_countOfPieces_22 : decode cX1_countOfPieces 22 = .ok (.goto (-18), 3) := by decide +kernel
theorem dX1_countOfPieces_25 : decode cX1_countOfPieces 25 = .ok (.iload_n 1, 1) := by decide +kernel
theorem dX1_countOfPieces_26 : decode cX1_countOfPieces 26 = .ok (.ireturn, 1) := by decide +kernel
theorem dX1_copyFrom_0 : decode cX1_copyFrom 0 = .ok (.aload_n 1, 1) := by decide +kernel
theorem dX1_copyFrom_1 : decode cX1_copyFrom 1 = .ok (.getfield 9, 3) := by decide +kernel
theorem dX1_copyFrom_4 : decode cX1_copyFrom 4 = .ok (.iconst 0, 1) := by decide +kernel
theorem dX1_copyFrom_5 : decode cX1_copyFrom 5 = .ok (.aload_n 0, 1) := by decide +kernel
theorem dX1_copyFrom_6 : decode cX1_copyFrom 6 = .ok (.getfield 9, 3) := by decide +kernel
theorem dX1_copyFrom_9 : decode cX1_copyFrom 9 = .ok (.iconst 0, 1) := by decide +kernel
theorem dX1_copyFrom_10 : decode cX1_copyFrom 10 = .ok (.bipush 10, 2) := by decide +kernel
theorem dX1_copyFrom_12 : decode cX1_copyFrom 12 = .ok (.invokestatic 21, 3) := by decide +kernel
theorem dX1_copyFrom_15 : decode cX1_copyFrom 15 = .ok (.aload_n 1, 1) := by decide +kernel
theorem dX1_copyFrom_16 : decode cX1_copyFrom 16 = .ok (.getfield 15, 3) := by decide +kernel
theorem dX1_copyFrom_19 : decode cX1_copyFrom 19 = .ok (.iconst 0, 1) := by decide +kernel
theorem dX1_copyFrom_20 : decode cX1_copyFrom 20 = .ok (.aload_n 0, 1) := by decide +kernel
theorem dX1_copyFrom_21 : decode cX1_copyFrom 21 = .ok (.getfield 15, 3) := by decide +kernel
theorem dX1_copyFrom_24 : decode cX1_copyFrom 24 = .ok (.iconst 0, 1) := by decide +kernel
theorem dX1_copyFrom_25 : decode cX1_copyFrom 25 = .ok (.bipush 10, 2) := by decide +kernel
theorem dX1_copyFrom_27 : decode cX1_copyFrom 27 = .ok (.invokestatic 21, 3) := by decide +kernel
theorem dX1_copyFrom_30 : decode cX1_copyFrom 30 = .ok (.aload_n 1, 1) := by decide +kernel
theorem dX1_copyFrom_31 : decode cX1_copyFrom 31 = .ok (.getfield 18, 3) := by decide +kernel
theorem dX1_copyFrom_34 : decode cX1_copyFrom 34 = .ok (.iconst 0, 1) := by decide +kernel
theorem dX1_copyFrom_35 : decode cX1_copyFrom 35 = .ok (.aload_n 0, 1) := by decide +kernel
theorem dX1_copyFrom_36 : decode cX1_copyFrom 36 = .ok (.getfield 18, 3) := by decide +kernel
theorem dX1_copyFrom_39 : decode cX1_copyFrom 39 = .ok (.iconst 0, 1) := by decide +kernel
theorem dX1_copyFrom_40 : decode cX1_copyFrom 40 = .ok (.bipush 10, 2) := by decide +kernel
theorem dX1_copyFrom_42 : decode cX1_copyFrom 42 = .ok (.invokestatic 21, 3) := by decide +kernel
theorem dX1_copyFrom_45 : decode cX1_copyFrom 45 = .ok (.return_, 1) := by decide +kernel
theorem dX1_removeAllPieces_0 : decode cX1_removeAllPieces 0 = .ok (.aload_n 0, 1) := by decide +kernel
theorem dX1_removeAllPieces_1 : decode cX1_removeAllPieces 1 = .ok (.getfield 18, 3) := by decide +kernel
theorem dX1_removeAllPieces_4 : decode cX1_removeAllPieces 4 = .ok (.iconst 0, 1) := by decide +kernel
theorem dX1_removeAllPieces_5 : decode cX1_removeAllPieces 5 = .ok (.invokestatic 27, 3) := by decide +kernel
theorem dX1_removeAllPieces_8 : decode cX1_removeAllPieces 8 = .ok (.return_, 1) := by decide +kernel
theorem dX2_init_0 : decode cX2_init 0 = .ok (.aload_n 0, 1) := by decide +kernel
theorem dX2_init_1 : decode cX2_init 1 = .ok (.invokespecial 3, 3) := by decide +kernel
theorem dX2_init_4 : decode cX2_init 4 = .ok (.aload_n 0, 1) := by decide +kernel
theorem dX2_init_5 : decode cX2_init 5 = .ok (.new 9, 3) := by decide +kernel
theorem dX2_init_8 : decode cX2_init 8 = .ok (.dup, 1) := by decide +kernel
theorem dX2_init_9 : decode cX2_init 9 = .ok (.invokespecial 11, 3) := by decide +kernel
theorem dX2_init_12 : decode cX2_init 12 = .ok (.putfield 12, 3) := by decide +kernel
theorem dX2_init_15 : decode cX2_init 15 = .ok (.aload_n 0, 1) := by decide +kernel
theorem dX2_init_16 : decode cX2_init 16 = .ok (.iconst 0, 1) := by decide +kernel
theorem dX2_init_17 : decode cX2_init 17 = .ok (.putfield 18, 3) := by decide +kernel
theorem dX2_init_20 : decode cX2_init 20 = .ok (.aload_n 0, 1) := by decide +kernel
theorem dX2_init_21 : decode cX2_init 21 = .ok (.iconst 0, 1) := by decide +kernel
theorem dX2_init_22 : decode cX2_init 22 = .ok (.putfield 22, 3) := by decide +kernel
theorem dX2_init_25 : decode cX2_init 25 = .ok (.aload_n 0, 1) := by decide +kernel
theorem dX2_init_26 : decode cX2_init 26 = .ok (.iconst 0, 1) := by decide +kernel
theorem dX2_init_27 : decode cX2_init 27 = .ok (.putfield 25, 3) := by decide +kernel
theorem dX2_init_30 : decode cX2_init 30 = .ok (.return_, 1) := by decide +kernel
theorem dX2_become_0 : decode cX2_become 0 = .ok (.aload_n 0, 1) := by decide +kernel
theorem dX2_become_1 : decode cX2_become 1 = .ok (.getfield 12, 3) := by decide +kernel
theorem dX2_become_4 : decode cX2_become 4 = .ok (.aload_n 1, 1) := by decide +kernel
theorem dX2_become_5 : decode cX2_become 5 = .ok (.invokevirtual 28, 3) := by decide +kernel
theorem dX2_become_8 : decode cX2_become 8 = .ok (.aload_n 0, 1) := by decide +kernel
theorem dX2_become_9 : decode cX2_become 9 = .ok (.iload_n 2, 1) := by decide +kernel
theorem dX2_become_10 : decode cX2_become 10 = .ok (.putfield 18, 3) := by decide +kernel
theorem dX2_become_13 : decode cX2_become 13 = .ok (.aload_n 0, 1) := by decide +kernel
theorem dX2_become_14 : decode cX2_become 14 = .ok (.iload_n 3, 1) := by decide +kernel
theorem dX2_become_15 : decode cX2_become 15 = .ok (.putfield 22, 3) := by decide +kernel
theorem dX2_become_18 : decode cX2_become 18 = .ok (.aload_n 0, 1) := by decide +kernel
theorem dX2_become_19 : decode cX2_become 19 = .ok (.iload 4, 2) := by decide +kernel
theorem dX2_become_21 : decode cX2_become 21 = .ok (.putfield 25, 3) := by decide +kernel
theorem dX2_become_24 : decode cX2_become 24 = .ok (.return_, 1) := by decide +kernel
theorem dX2_tell_0 : decode cX2_tell 0 = .ok (.iload_n 1, 1) := by decide +kernel
theorem dX2_tell_1 : decode cX2_tell 1 = .ok (.tableswitch 54 0 3 #[31, 36, 41, 46], 31) := by decide +kernel
theorem dX2_tell_32 : decode cX2_tell 32 = .ok (.aload_n 0, 1) := by decide +kernel
theorem dX2_tell_33 : decode cX2_tell 33 = .ok (.getfield 25, 3) := by decide +kernel
theorem dX2_tell_36 : decode cX2_tell 36 = .ok (.ireturn, 1) := by decide +kernel
theorem dX2_tell_37 : decode cX2_tell 37 = .ok (.aload_n 0, 1) := by decide +kernel
theorem dX2_tell_38 : decode cX2_tell 38 = .ok (.getfield 22, 3) := by decide +kernel
theorem dX2_tell_41 : decode cX2_tell 41 = .ok (.ireturn, 1) := by decide +kernel
theorem dX2_tell_42 : decode cX2_tell 42 = .ok (.aload_n 0, 1) := by decide +kernel
theorem dX2_tell_43 : decode cX2_tell 43 = .ok (.getfield 18, 3) := by decide +kernel
theorem dX2_tell_46 : decode cX2_tell 46 = .ok (.ireturn, 1) := by decide +kernel
theorem dX2_tell_47 : decode cX2_tell 47 = .ok (.aload_n 0, 1) := by decide +kernel
theorem dX2_tell_48 : decode cX2_tell 48 = .ok (.getfield 12, 3) := by decide +kernel
theorem dX2_tell_51 : decode cX2_tell 51 = .ok (.invokevirtual 32, 3) := by decide +kernel
theorem dX2_tell_54 : decode cX2_tell 54 = .ok (.ireturn, 1) := by decide +kernel
theorem dX2_tell_55 : decode cX2_tell 55 = .ok (.aload_n 0, 1) := by decide +kernel
theorem dX2_tell_56 : decode cX2_tell 56 = .ok (.getfield 12, 3) := by decide +kernel
theorem dX2_tell_59 : decode cX2_tell 59 = .ok (.sipush 255, 3) := by decide +kernel
theorem dX2_tell_62 : decode cX2_tell 62 = .ok (.invokevirtual 36, 3) := by decide +kernel
theorem dX2_tell_65 : decode cX2_tell 65 = .ok (.ireturn, 1) := by decide +kernel
theorem dX3_init_0 : decode cX3_init 0 = .ok (.aload_n 0, 1) := by decide +kernel
theorem dX3_init_1 : decode cX3_init 1 = .ok (.invokespecial 3, 3) := by decide +kernel
theorem dX3_init_4 : decode cX3_init 4 = .ok (.aload_n 0, 1) := by decide +kernel
theorem dX3_init_5 : decode cX3_init 5 = .ok (.iconst 0, 1) := by decide +kernel
theorem dX3_init_6 : decode cX3_init 6 = .ok (.putfield 9, 3) := by decide +kernel
theorem dX3_init_9 : decode cX3_init 9 = .ok (.aload_n 0, 1) := by decide +kernel
theorem dX3_init_10 : decode cX3_init 10 = .ok (.iconst 0, 1) := by decide +kernel
theorem dX3_init_11 : decode cX3_init 11 = .ok (.putfield 15, 3) := by decide +kernel
theorem dX3_init_14 : decode cX3_init 14 = .ok (.aload_n 0, 1) := by decide +kernel
theorem dX3_init_15 : decode cX3_init 15 = .ok (.iconst 0, 1) := by decide +kernel
theorem dX3_init_16 : decode cX3_init 16 = .ok (.putfield 18, 3) := by decide +kernel
theorem dX3_init_19 : decode cX3_init 19 = .ok (.aload_n 0, 1) := by decide +kernel
theorem dX3_init_20 : decode cX3_init 20 = .ok (.ldc 21, 2) := by decide +kernel
theorem dX3_init_22 : decode cX3_init 22 = .ok (.putfield 22, 3) := by decide +kernel
theorem dX3_init_25 : decode cX3_init 25 = .ok (.aload_n 0, 1) := by decide +kernel
theorem dX3_init_26 : decode cX3_init 26 = .ok (.ldc 21, 2) := by decide +kernel
theorem dX3_init_28 : decode cX3_init 28 = .ok (.putfield 25, 3) := by decide +kernel
theorem dX3_init_31 : decode cX3_init 31 = .ok (.return_, 1) := by decide +kernel
theorem dX3_begin_0 : decode cX3_begin 0 = .ok (.aload_n 0, 1) := by decide +kernel
theorem dX3_begin_1 : decode cX3_begin 1 = .ok (.iload_n 1, 1) := by decide +kernel
theorem dX3_begin_2 : decode cX3_begin 2 = .ok (.putfield 9, 3) := by decide +kernel
theorem dX3_begin_5 : decode cX3_begin 5 = .ok (.aload_n 0, 1) := by decide +kernel
theorem dX3_begin_6 : decode cX3_begin 6 = .ok (.iload_n 2, 1) := by decide +kernel
theorem dX3_begin_7 : decode cX3_begin 7 = .ok (.putfield 15, 3) := by decide +kernel
theorem dX3_begin_10 : decode cX3_begin 10 = .ok (.aload_n 0, 1) := by decide +kernel
theorem dX3_begin_11 : decode cX3_begin 11 = .ok (.iconst 0, 1) := by decide +kernel
theorem dX3_begin_12 : decode cX3_begin 12 = .ok (.putfield 18, 3) := by decide +kernel
theorem dX3_begin_15 : decode cX3_begin 15 = .ok (.aload_n 0, 1) := by decide +kernel
theorem dX3_begin_16 : decode cX3_begin 16 = .ok (.ldc 21, 2) := by decide +kernel
theorem dX3_begin_18 : decode cX3_begin 18 = .ok (.putfield 22, 3) := by decide +kernel
theorem dX3_begin_21 : decode cX3_begin 21 = .ok (.aload_n 0, 1) := by decide +kernel
theorem dX3_begin_22 : decode cX3_begin 22 = .ok (.ldc 21, 2) := by decide +kernel
theorem dX3_begin_24 : decode cX3_begin 24 = .ok (.putfield 25, 3) := by decide +kernel
theorem dX3_begin_27 : decode cX3_begin 27 = .ok (.return_, 1) := by decide +kernel
theorem dX3_offer_0 : decode cX3_offer 0 = .ok (.iload_n 1, 1) := by decide +kernel
theorem dX3_offer_1 : decode cX3_offer 1 = .ok (.aload_n 0, 1) := by decide +kernel
theorem dX3_offer_2 : decode cX3_offer 2 = .ok (.getfield 9, 3) := by decide +kernel
theorem dX3_offer_5 : decode cX3_offer 5 = .ok (.iand, 1) := by decide +kernel
theorem dX3_offer_6 : decode cX3_offer 6 = .ok (.ifCond .ne 15, 3) := by decide +kernel
theorem dX3_offer_9 : decode cX3_offer 9 = .ok (.aload_n 0, 1) := by decide +kernel
theorem dX3_offer_10 : decode cX3_offer 10 = .ok (.aload_n 0, 1) := by decide +kernel
theorem dX3_offer_11 : decode cX3_offer 11 = .ok (.getfield 25, 3) := by decide +kernel
theorem dX3_offer_14 : decode cX3_offer 14 = .ok (.iload_n 2, 1) := by decide +kernel
theorem dX3_offer_15 : decode cX3_offer 15 = .ok (.invokestatic 28, 3) := by decide +kernel
theorem dX3_offer_18 : decode cX3_offer 18 = .ok (.putfield 25, 3) := by decide +kernel
theorem dX3_offer_21 : decode cX3_offer 21 = .ok (.aload_n 0, 1) := by decide +kernel
theorem dX3_offer_22 : decode cX3_offer 22 = .ok (.iload_n 1, 1) := by decide +kernel
theorem dX3_offer_23 : decode cX3_offer 23 = .ok (.iload_n 2, 1) := by decide +kernel
theorem dX3_offer_24 : decode cX3_offer 24 = .ok (.invokevirtual 34, 3) := by decide +kernel
theorem dX3_offer_27 : decode cX3_offer 27 = .ok (.ifCond .eq 13, 3) := by decide +kernel
theorem dX3_offer_30 : decode cX3_offer 30 = .ok (.aload_n 0, 1) := by decide +kernel
theorem dX3_offer_31 : decode cX3_offer 31 = .ok (.iload_n 1, 1) := by decide +kernel
theorem dX3_offer_32 : decode cX3_offer 32 = .ok (.putfield 18, 3) := by decide +kernel
theorem dX3_offer_35 : decode cX3_offer 35 = .ok (.aload_n 0, 1) := by decide +kernel
theorem dX3_offer_36 : decode cX3_offer 36 = .ok (.iload_n 2, 1) := by decide +kernel
theorem dX3_offer_37 : decode cX3_offer 37 = .ok (.putfield 22, 3) := by decide +kernel
theorem dX3_offer_40 : decode cX3_offer 40 = .ok (.return_, 1) := by decide +kernel
theorem dX3_isBetter_0 : decode cX3_isBetter 0 = .ok (.iload_n 2, 1) := by decide +kernel
theorem dX3_isBetter_1 : decode cX3_isBetter 1 = .ok (.aload_n 0, 1) := by decide +kernel
theorem dX3_isBetter_2 : decode cX3_isBetter 2 = .ok (.getfield 22, 3) := by decide +kernel
theorem dX3_isBetter_5 : decode cX3_isBetter 5 = .ok (.if_icmp .eq 17, 3) := by decide +kernel
theorem dX3_isBetter_8 : decode cX3_isBetter 8 = .ok (.iload_n 2, 1) := by decide +kernel
theorem dX3_isBetter_9 : decode cX3_isBetter 9 = .ok (.aload_n 0, 1) := by decide +kernel
theorem dX3_isBetter_10 : decode cX3_isBetter 10 = .ok (.getfield 22, 3) := by decide +kernel
theorem dX3_isBetter_13 : decode cX3_isBetter 13 = .ok (.if_icmp .ge 7, 3) := by decide +kernel
theorem dX3_isBetter_16 : decode cX3_isBetter 16 = .ok (.iconst 1, 1) := by decide +kernel
theorem dX3_isBetter_17 : decode cX3_isBetter 17 = .ok (.goto 4, 3) := by decide +kernel
theorem dX3_isBetter_20 : decode cX3_isBetter 20 = .ok (.iconst 0, 1) := by decide +kernel
theorem dX3_isBetter_21 : decode cX3_isBetter 21 = .ok (.ireturn, 1) := by decide +kernel
theorem dX3_isBetter_22 : decode cX3_isBetter 22 = .ok (.iload_n 1, 1) := by decide +kernel
theorem dX3_isBetter_23 : decode cX3_isBetter 23 = .ok (.invokestatic 38, 3) := by decide +kernel
theorem dX3_isBetter_26 : decode cX3_isBetter 26 = .ok (.aload_n 0, 1) := by decide +kernel
theorem dX3_isBetter_27 : decode cX3_isBetter 27 = .ok (.getfield 18, 3) := by decide +kernel
theorem dX3_isBetter_30 : decode cX3_isBetter 30 = .ok (.invokestatic 38, 3) := by decide +kernel
theorem dX3_isBetter_33 : decode cX3_isBetter 33 = .ok (.isub, 1) := by decide +kernel
theorem dX3_isBetter_34 : decode cX3_isBetter 34 = .ok (.istore_n 3, 1) := by decide +kernel
theorem dX3_isBetter_35 : decode cX3_isBetter 35 = .ok (.iload_n 3, 1) := by decide +kernel
theorem dX3_isBetter_36 : decode cX3_isBetter 36 = .ok (.ifCond .lt 15, 3) := by decide +kernel
theorem dX3_isBetter_39 : decode cX3_isBetter 39 = .ok (.iload_n 3, 1) := by decide +kernel
theorem dX3_isBetter_40 : decode cX3_isBetter 40 = .ok (.ifCond .ne 15, 3) := by decide +kernel
theorem dX3_isBetter_43 : decode cX3_isBetter 43 = .ok (.iload_n 1, 1) := by decide +kernel
theorem dX3_isBetter_44 : decode cX3_isBetter 44 = .ok (.aload_n 0, 1) := by decide +kernel
theorem dX3_isBetter_45 : decode cX3_isBetter 45 = .ok (.getfield 18, 3) := by decide +kernel
theorem dX3_isBetter_48 : decode cX3_isBetter 48 = .ok (.if_icmp .ge 7, 3) := by decide +kernel
theorem dX3_isBetter_51 : decode cX3_isBetter 51 = .ok (.iconst 1, 1) := by decide +kernel
theorem dX3_isBetter_52 : decode cX3_isBetter 52 = .ok (.goto 4, 3) := by decide +kernel
theorem dX3_isBetter_55 : decode cX3_isBetter 55 = .ok (.iconst 0, 1) := by decide +kernel
theorem dX3_isBetter_56 : decode cX3_isBetter 56 = .ok (.ireturn, 1) := by decide +kernel
theorem dX4_init_0 : decode cX4_init 0 = .ok (.aload_n 0, 1) := by decide +kernel
theorem dX4_init_1 : decode cX4_init 1 = .ok (.invokespecial 3, 3) := by decide +kernel
theorem dX4_init_4 : decode cX4_init 4 = .ok (.aload_n 0, 1) := by decide +kernel
theorem dX4_init_5 : decode cX4_init 5 = .ok (.bipush 60, 2) := by decide +kernel
theorem dX4_init_7 : decode cX4_init 7 = .ok (.newarray .int, 2) := by decide +kernel
theorem dX4_init_9 : decode cX4_init 9 = .ok (.putfield 9, 3) := by decide +kernel
theorem dX4_init_12 : decode cX4_init 12 = .ok (.aload_n 0, 1) := by decide +kernel
theorem dX4_init_13 : decode cX4_init 13 = .ok (.bipush 60, 2) := by decide +kernel
theorem dX4_init_15 : decode cX4_init 15 = .ok (.newarray .int, 2) := by decide +kernel
theorem dX4_init_17 : decode cX4_init 17 = .ok (.putfield 15, 3) := by decide +kernel
theorem dX4_init_20 : decode cX4_init 20 = .ok (.aload_n 0, 1) := by decide +kernel
theorem dX4_init_21 : decode cX4_init 21 = .ok (.bipush 9, 2) := by decide +kernel
theorem dX4_init_23 : decode cX4_init 23 = .ok (.bipush 60, 2) := by decide +kernel
theorem dX4_init_25 : decode cX4_init 25 = .ok (.multianewarray 18 2, 4) := by decide +kernel
theorem dX4_init_29 : decode cX4_init 29 = .ok (.putfield 20, 3) := by decide +kernel
theorem dX4_init_32 : decode cX4_init 32 = .ok (.aload_n 0, 1) := by decide +kernel
theorem dX4_init_33 : decode cX4_init 33 = .ok (.bipush 60, 2) := by decide +kernel
theorem dX4_init_35 : decode cX4_init 35 = .ok (.newarray .int, 2) := by decide +kernel
theorem dX4_init_37 : decode cX4_init 37 = .ok (.putfield 23, 3) := by decide +kernel
theorem dX4_init_40 : decode cX4_init 40 = .ok (.aload_n 0, 1) := by decide +kernel
theorem dX4_init_41 : decode cX4_init 41 = .ok (.iconst 0, 1) := by decide +kernel
theorem dX4_init_42 : decode cX4_init 42 = .ok (.putfield 26, 3) := by decide +kernel
theorem dX4_init_45 : decode cX4_init 45 = .ok (.return_, 1) := by decide +kernel
theorem dX4_lay_0 : decode cX4_lay 0 = .ok (.iconst 0, 1) := by decide +kernel
theorem dX4_lay_1 : decode cX4_lay 1 = .ok (.istore_n 2, 1) := by decide +kernel
theorem dX4_lay_2 : decode cX4_lay 2 = .ok (.iconst 0, 1) := by decide +kernel
theorem dX4_lay_3 : decode cX4_lay 3 = .ok (.istore_n 3, 1) := by decide +kernel
theorem dX4_lay_4 : decode cX4_lay 4 = .ok (.iload_n 3, 1) := by decide +kernel
theorem dX4_lay_5 : decode cX4_lay 5 = .ok (.bipush 10, 2) := by decide +kernel
theorem dX4_lay_7 : decode cX4_lay 7 = .ok (.if_icmp .ge 71, 3) := by decide +kernel
theorem dX4_lay_10 : decode cX4_lay 10 = .ok (.iconst 0, 1) := by decide +kernel
theorem dX4_lay_11 : decode cX4_lay 11 = .ok (.istore 4, 2) := by decide +kernel
theorem dX4_lay_13 : decode cX4_lay 13 = .ok (.iload 4, 2) := by decide +kernel
theorem dX4_lay_15 : decode cX4_lay 15 = .ok (.aload_n 1, 1) := by decide +kernel
theorem dX4_lay_16 : decode cX4_lay 16 = .ok (.getfield 30, 3) := by decide +kernel
theorem dX4_lay_19 : decode cX4_lay 19 = .ok (.iload_n 3, 1) := by decide +kernel
theorem dX4_lay_20 : decode cX4_lay 20 = .ok (.iaload, 1) := by decide +kernel
theorem dX4_lay_21 : decode cX4_lay 21 = .ok (.if_icmp .ge 51, 3) := by decide +kernel
theorem dX4_lay_24 : decode cX4_lay 24 = .ok (.iload_n 2, 1) := by decide +kernel
theorem dX4_lay_25 : decode cX4_lay 25 = .ok (.bipush 60, 2) := by decide +kernel
theorem dX4_lay_27 : decode cX4_lay 27 = .ok (.if_icmp .ge 45, 3) := by decide +kernel
theorem dX4_lay_30 : decode cX4_lay 30 = .ok (.aload_n 0, 1) := by decide +kernel
theorem dX4_lay_31 : decode cX4_lay 31 = .ok (.getfield 9, 3) := by decide +kernel
theorem dX4_lay_34 : decode cX4_lay 34 = .ok (.iload_n 2, 1) := by decide +kernel
theorem dX4_lay_35 : decode cX4_lay 35 = .ok (.iload_n 3, 1) := by decide +kernel
theorem dX4_lay_36 : decode cX4_lay 36 = .ok (.iastore, 1) := by decide +kernel
theorem dX4_lay_37 : decode cX4_lay 37 = .ok (.aload_n 0, 1) := by decide +kernel
theorem dX4_lay_38 : decode cX4_lay 38 = .ok (.getfield 15, 3) := by decide +kernel
theorem dX4_lay_41 : decode cX4_lay 41 = .ok (.iload_n 2, 1) := by decide +kernel
theorem dX4_lay_42 : decode cX4_lay 42 = .ok (.aload_n 1, 1) := by decide +kernel
theorem dX4_lay_43 : decode cX4_lay 43 = .ok (.getfield 35, 3) := by decide +kernel
theorem dX4_lay_46 : decode cX4_lay 46 = .ok (.iload_n 3, 1) := by decide +kernel
theorem dX4_lay_47 : decode cX4_lay 47 = .ok (.iaload, 1) := by decide +kernel
theorem dX4_lay_48 : decode cX4_lay 48 = .ok (.iastore, 1) := by decide +kernel
theorem dX4_lay_49 : decode cX4_lay 49 = .ok (.aload_n 0, 1) := by decide +kernel
theorem dX4_lay_50 : decode cX4_lay 50 = .ok (.getfield 20, 3) := by decide +kernel
theorem dX4_lay_53 : decode cX4_lay 53 = .ok (.iconst 0, 1) := by decide +kernel
theorem dX4_lay_54 : decode cX4_lay 54 = .ok (.aaload, 1) := by decide +kernel
theorem dX4_lay_55 : decode cX4_lay 55 = .ok (.iload_n 2, 1) := by decide +kernel
theorem dX4_lay_56 : decode cX4_lay 56 = .ok (.aload_n 1, 1) := by decide +kernel
theorem dX4_lay_57 : decode cX4_lay 57 = .ok (.getfield 36, 3) := by decide +kernel
theorem dX4_lay_60 : decode cX4_lay 60 = .ok (.iload_n 3, 1) := by decide +kernel
theorem dX4_lay_61 : decode cX4_lay 61 = .ok (.iaload, 1) := by decide +kernel
theorem dX4_lay_62 : decode cX4_lay 62 = .ok (.iastore, 1) := by decide +kernel
theorem dX4_lay_63 : decode cX4_lay 63 = .ok (.iinc 2 1, 3) := by decide +kernel
theorem dX4_lay_66 : decode cX4_lay 66 = .ok (.iinc 4 1, 3) := by decide +kernel
theorem dX4_lay_69 : decode cX4_lay 69 = .ok (.goto (-56), 3) := by decide +kernel
theorem dX4_lay_72 : decode cX4_lay 72 = .ok (.iinc 3 1, 3) := by decide +kernel
theorem dX4_lay_75 : decode cX4_lay 75 = .ok (.goto (-71), 3) := by decide +kernel
theorem dX4_lay_78 : decode cX4_lay 78 = .ok (.aload_n 0, 1) := by decide +kernel
theorem dX4_lay_79 : decode cX4_lay 79 = .ok (.iload_n 2, 1) := by decide +kernel
theorem dX4_lay_80 : decode cX4_lay 80 = .ok (.putfield 26, 3) := by decide +kernel
theorem dX4_lay_83 : decode cX4_lay 83 = .ok (.return_, 1) := by decide +kernel
theorem dX4_copyRow_0 : decode cX4_copyRow 0 = .ok (.aload_n 0, 1) := by decide +kernel
theorem dX4_copyRow_1 : decode cX4_copyRow 1 = .ok (.getfield 20, 3) := by decide +kernel
theorem dX4_copyRow_4 : decode cX4_copyRow 4 = .ok (.iload_n 1, 1) := by decide +kernel
theorem dX4_copyRow_5 : decode cX4_copyRow 5 = .ok (.aaload, 1) := by decide +kernel
theorem dX4_copyRow_6 : decode cX4_copyRow 6 = .ok (.iconst 0, 1) := by decide +kernel
theorem dX4_copyRow_7 : decode cX4_copyRow 7 = .ok (.aload_n 0, 1) := by decide +kernel
theorem dX4_copyRow_8 : decode cX4_copyRow 8 = .ok (.getfield 20, 3) := by decide +kernel
theorem dX4_copyRow_11 : decode cX4_copyRow 11 = .ok (.iload_n 2, 1) := by decide +kernel
theorem dX4_copyRow_12 : decode cX4_copyRow 12 = .ok (.aaload, 1) := by decide +kernel
theorem dX4_copyRow_13 : decode cX4_copyRow 13 = .ok (.iconst 0, 1) := by decide +kernel
theorem dX4_copyRow_14 : decode cX4_copyRow 14 = .ok (.aload_n 0, 1) := by decide +kernel
theorem dX4_copyRow_15 : decode cX4_copyRow 15 = .ok (.getfield 26, 3) := by decide +kernel
theorem dX4_copyRow_18 : decode cX4_copyRow 18 = .ok (.invokestatic 39, 3) := by decide +kernel
theorem dX4_copyRow_21 : decode cX4_copyRow 21 = .ok (.return_, 1) := by decide +kernel
theorem dX4_restsInRow_0 : decode cX4_restsInRow 0 = .ok (.aload_n 0, 1) := by decide +kernel
theorem dX4_restsInRow_1 : decode cX4_restsInRow 1 = .ok (.getfield 20, 3) := by decide +kernel
theorem dX4_restsInRow_4 : decode cX4_restsInRow 4 = .ok (.iload_n 1, 1) := by decide +kernel
theorem dX4_restsInRow_5 : decode cX4_restsInRow 5 = .ok (.aaload, 1) := by decide +kernel
theorem dX4_restsInRow_6 : decode cX4_restsInRow 6 = .ok (.astore_n 2, 1) := by decide +kernel
theorem dX4_restsInRow_7 : decode cX4_restsInRow 7 = .ok (.iconst 0, 1) := by decide +kernel
theorem dX4_restsInRow_8 : decode cX4_restsInRow 8 = .ok (.istore_n 3, 1) := by decide +kernel
theorem dX4_restsInRow_9 : decode cX4_restsInRow 9 = .ok (.iconst 0, 1) := by decide +kernel
theorem dX4_restsInRow_10 : decode cX4_restsInRow 10 = .ok (.istore 4, 2) := by decide +kernel
theorem dX4_restsInRow_12 : decode cX4_restsInRow 12 = .ok (.iload 4, 2) := by decide +kernel
theorem dX4_restsInRow_14 : decode cX4_restsInRow 14 = .ok (.aload_n 0, 1) := by decide +kernel
theorem dX4_restsInRow_15 : decode cX4_restsInRow 15 = .ok (.getfield 26, 3) := by decide +kernel
theorem dX4_restsInRow_18 : decode cX4_restsInRow 18 = .ok (.if_icmp .ge 16, 3) := by decide +kernel
theorem dX4_restsInRow_21 : decode cX4_restsInRow 21 = .ok (.iload_n 3, 1) := by decide +kernel
theorem dX4_restsInRow_22 : decode cX4_restsInRow 22 = .ok (.aload_n 2, 1) := by decide +kernel
theorem dX4_restsInRow_23 : decode cX4_restsInRow 23 = .ok (.iload 4, 2) := by decide +kernel
theorem dX4_restsInRow_25 : decode cX4_restsInRow 25 = .ok (.iaload, 1) := by decide +kernel
theorem dX4_restsInRow_26 : decode cX4_restsInRow 26 = .ok (.iadd, 1) := by decide +kernel
theorem dX4_restsInRow_27 : decode cX4_restsInRow 27 = .ok (.istore_n 3, 1) := by decide +kernel
theorem dX4_restsInRow_28 : decode cX4_restsInRow 28 = .ok (.iinc 4 1, 3) := by decide +kernel
theorem dX4_restsInRow_31 : decode cX4_restsInRow 31 = .ok (.goto (-19), 3) := by decide +kernel
theorem dX4_restsInRow_34 : decode cX4_restsInRow 34 = .ok (.iload_n 3, 1) := by decide +kernel
theorem dX4_restsInRow_35 : decode cX4_restsInRow 35 = .ok (.ireturn, 1) := by decide +kernel
theorem dX4_apply_0 : decode cX4_apply 0 = .ok (.aload_n 1, 1) := by decide +kernel
theorem dX4_apply_1 : decode cX4_apply 1 = .ok (.getfield 45, 3) := by decide +kernel
theorem dX4_apply_4 : decode cX4_apply 4 = .ok (.tableswitch 70 0 2 #[28, 42, 56], 28) := by decide +kernel
theorem dX4_apply_32 : decode cX4_apply 32 = .ok (.aload_n 0, 1) := by decide +kernel
theorem dX4_apply_33 : decode cX4_apply 33 = .ok (.aload_n 1, 1) := by decide +kernel
theorem dX4_apply_34 : decode cX4_apply 34 = .ok (.aload_n 0, 1) := by decide +kernel
theorem dX4_apply_35 : decode cX4_apply 35 = .ok (.getfield 20, 3) := by decide +kernel
theorem dX4_apply_38 : decode cX4_apply 38 = .ok (.iload_n 2, 1) := by decide +kernel
theorem dX4_apply_39 : decode cX4_apply 39 = .ok (.aaload, 1) := by decide +kernel
theorem dX4_apply_40 : decode cX4_apply 40 = .ok (.invokevirtual 50, 3) := by decide +kernel
theorem dX4_apply_43 : decode cX4_apply 43 = .ok (.goto 31, 3) := by decide +kernel
theorem dX4_apply_46 : decode cX4_apply 46 = .ok (.aload_n 0, 1) := by decide +kernel
theorem dX4_apply_47 : decode cX4_apply 47 = .ok (.aload_n 1, 1) := by decide +kernel
theorem dX4_apply_48 : decode cX4_apply 48 = .ok (.aload_n 0, 1) := by decide +kernel
theorem dX4_apply_49 : decode cX4_apply 49 = .ok (.getfield 20, 3) := by decide +kernel
theorem dX4_apply_52 : decode cX4_apply 52 = .ok (.iload_n 2, 1) := by decide +kernel
theorem dX4_apply_53 : decode cX4_apply 53 = .ok (.aaload, 1) := by decide +kernel
theorem dX4_apply_54 : decode cX4_apply 54 = .ok (.invokevirtual 54, 3) := by decide +kernel
theorem dX4_apply_57 : decode cX4_apply 57 = .ok (.goto 17, 3) := by decide +kernel
theorem dX4_apply_60 : decode cX4_apply 60 = .ok (.aload_n 0, 1) := by decide +kernel
theorem dX4_apply_61 : decode cX4_apply 61 = .ok (.aload_n 1, 1) := by decide +kernel
theorem dX4_apply_62 : decode cX4_apply 62 = .ok (.aload_n 0, 1) := by decide +kernel
theorem dX4_apply_63 : decode cX4_apply 63 = .ok (.getfield 20, 3) := by decide +kernel
theorem dX4_apply_66 : decode cX4_apply 66 = .ok (.iload_n 2, 1) := by decide +kernel
theorem dX4_apply_67 : decode cX4_apply 67 = .ok (.aaload, 1) := by decide +kernel
theorem dX4_apply_68 : decode cX4_apply 68 = .ok (.invokevirtual 57, 3) := by decide +kernel
theorem dX4_apply_71 : decode cX4_apply 71 = .ok (.goto 3, 3) := by decide +kernel
theorem dX4_apply_74 : decode cX4_apply 74 = .ok (.return_, 1) := by decide +kernel
theorem dX4_takePercent_0 : decode cX4_takePercent 0 = .ok (.iconst 0, 1) := by decide +kernel
theorem dX4_takePercent_1 : decode cX4_takePercent 1 = .ok (.istore_n 3, 1) := by decide +kernel
theorem dX4_takePercent_2 : decode cX4_takePercent 2 = .ok (.iload_n 3, 1) := by decide +kernel
theorem dX4_takePercent_3 : decode cX4_takePercent 3 = .ok (.aload_n 0, 1) := by decide +kernel
theorem dX4_takePercent_4 : decode cX4_takePercent 4 = .ok (.getfield 26, 3) := by decide +kernel
theorem dX4_takePercent_7 : decode cX4_takePercent 7 = .ok (.if_icmp .ge 39, 3) := by decide +kernel
theorem dX4_takePercent_10 : decode cX4_takePercent 10 = .ok (.aload_n 1, 1) := by decide +kernel
theorem dX4_takePercent_11 : decode cX4_takePercent 11 = .ok (.aload_n 0, 1) := by decide +kernel
theorem dX4_takePercent_12 : decode cX4_takePercent 12 = .ok (.getfield 15, 3) := by decide +kernel
theorem dX4_takePercent_15 : decode cX4_takePercent 15 = .ok (.iload_n 3, 1) := by decide +kernel
theorem dX4_takePercent_16 : decode cX4_takePercent 16 = .ok (.iaload, 1) := by decide +kernel
theorem dX4_takePercent_17 : decode cX4_takePercent 17 = .ok (.invokevirtual 60, 3) := by decide +kernel
theorem dX4_takePercent_20 : decode cX4_takePercent 20 = .ok (.ifCond .eq 20, 3) := by decide +kernel
theorem dX4_takePercent_23 : decode cX4_takePercent 23 = .ok (.aload_n 2, 1) := by decide +kernel
theorem dX4_takePercent_24 : decode cX4_takePercent 24 = .ok (.iload_n 3, 1) := by decide +kernel
theorem dX4_takePercent_25 : decode cX4_takePercent 25 = .ok (.dup2, 1) := by decide +kernel
theorem dX4_takePercent_26 : decode cX4_takePercent 26 = .ok (.iaload, 1) := by decide +kernel
theorem dX4_takePercent_27 : decode cX4_takePercent 27 = .ok (.aload_n 2, 1) := by decide +kernel
theorem dX4_takePercent_28 : decode cX4_takePercent 28 = .ok (.iload_n 3, 1) := by decide +kernel
theorem dX4_takePercent_29 : decode cX4_takePercent 29 = .ok (.iaload, 1) := by decide +kernel
theorem dX4_takePercent_30 : decode cX4_takePercent 30 = .ok (.aload_n 1, 1) := by decide +kernel
theorem dX4_takePercent_31 : decode cX4_takePercent 31 = .ok (.getfield 64, 3) := by decide +kernel
theorem dX4_takePercent_34 : decode cX4_takePercent 34 = .ok (.imul, 1) := by decide +kernel
theorem dX4_takePercent_35 : decode cX4_takePercent 35 = .ok (.bipush 100, 2) := by decide +kernel
theorem dX4_takePercent_37 : decode cX4_takePercent 37 = .ok (.idiv, 1) := by decide +kernel
theorem dX4_takePercent_38 : decode cX4_takePercent 38 = .ok (.isub, 1) := by decide +kernel
theorem dX4_takePercent_39 : decode cX4_takePercent 39 = .ok (.iastore, 1) := by decide +kernel
theorem dX4_takePercent_40 : decode cX4_takePercent 40 = .ok (.iinc 3 1, 3) := by decide +kernel
theorem dX4_takePercent_43 : decode cX4_takePercent 43 = .ok (.goto (-41), 3) := by decide +kernel
theorem dX4_takePercent_46 : decode cX4_takePercent 46 = .ok (.return_, 1) := by decide +kernel
theorem dX4_takeAmount_0 : decode cX4_takeAmount 0 = .ok (.aload_n 0, 1) := by decide +kernel
theorem dX4_takeAmount_1 : decode cX4_takeAmount 1 = .ok (.aload_n 1, 1) := by decide +kernel
theorem dX4_takeAmount_2 : decode cX4_takeAmount 2 = .ok (.aload_n 2, 1) := by decide +kernel
theorem dX4_takeAmount_3 : decode cX4_takeAmount 3 = .ok (.invokevirtual 67, 3) := by decide +kernel
theorem dX4_takeAmount_6 : decode cX4_takeAmount 6 = .ok (.istore_n 3, 1) := by decide +kernel
theorem dX4_takeAmount_7 : decode cX4_takeAmount 7 = .ok (.iload_n 3, 1) := by decide +kernel
theorem dX4_takeAmount_8 : decode cX4_takeAmount 8 = .ok (.ifCond .gt 4, 3) := by decide +kernel
theorem dX4_takeAmount_11 : decode cX4_takeAmount 11 = .ok (.return_, 1) := by decide +kernel
theorem dX4_takeAmount_12 : decode cX4_takeAmount 12 = .ok (.iload_n 3, 1) := by decide +kernel
theorem dX4_takeAmount_13 : decode cX4_takeAmount 13 = .ok (.aload_n 1, 1) := by decide +kernel
theorem dX4_takeAmount_14 : decode cX4_takeAmount 14 = .ok (.getfield 64, 3) := by decide +kernel
theorem dX4_takeAmount_17 : decode cX4_takeAmount 17 = .ok (.invokestatic 71, 3) := by decide +kernel
theorem dX4_takeAmount_20 : decode cX4_takeAmount 20 = .ok (.istore 4, 2) := by decide +kernel
theorem dX4_takeAmount_22 : decode cX4_takeAmount 22 = .ok (.iload 4, 2) := by decide +kernel
theorem dX4_takeAmount_24 : decode cX4_takeAmount 24 = .ok (.istore 5, 2) := by decide +kernel
theorem dX4_takeAmount_26 : decode cX4_takeAmount 26 = .ok (.iconst 0, 1) := by decide +kernel
theorem dX4_takeAmount_27 : decode cX4_takeAmount 27 = .ok (.istore 6, 2) := by decide +kernel
theorem dX4_takeAmount_29 : decode cX4_takeAmount 29 = .ok (.iload 6, 2) := by decide +kernel
theorem dX4_takeAmount_31 : decode cX4_takeAmount 31 = .ok (.aload_n 0, 1) := by decide +kernel
theorem dX4_takeAmount_32 : decode cX4_takeAmount 32 = .ok (.getfield 26, 3) := by decide +kernel
theorem dX4_takeAmount_35 : decode cX4_takeAmount 35 = .ok (.if_icmp .ge 54, 3) := by decide +kernel
theorem dX4_takeAmount_38 : decode cX4_takeAmount 38 = .ok (.aload_n 1, 1) := by decide +kernel
theorem dX4_takeAmount_39 : decode cX4_takeAmount 39 = .ok (.aload_n 0, 1) := by decide +kernel
theorem dX4_takeAmount_40 : decode cX4_takeAmount 40 = .ok (.getfield 15, 3) := by decide +kernel
theorem dX4_takeAmount_43 : decode cX4_takeAmount 43 = .ok (.iload 6, 2) := by decide +kernel
theorem dX4_takeAmount_45 : decode cX4_takeAmount 45 = .ok (.iaload, 1) := by decide +kernel
theorem dX4_takeAmount_46 : decode cX4_takeAmount 46 = .ok (.invokevirtual 60, 3) := by decide +kernel
theorem dX4_takeAmount_49 : decode cX4_takeAmount 49 = .ok (.ifCond .eq 34, 3) := by decide +kernel
theorem dX4_takeAmount_52 : decode cX4_takeAmount 52 = .ok (.aload_n 2, 1) := by decide +kernel
theorem dX4_takeAmount_53 : decode cX4_takeAmount 53 = .ok (.iload 6, 2) := by decide +kernel
theorem dX4_takeAmount_55 : decode cX4_takeAmount 55 = .ok (.iaload, 1) := by decide +kernel
theorem dX4_takeAmount_56 : decode cX4_takeAmount 56 = .ok (.i2l, 1) := by decide +kernel
theorem dX4_takeAmount_57 : decode cX4_takeAmount 57 = .ok (.iload 4, 2) := by decide +kernel
theorem dX4_takeAmount_59 : decode cX4_takeAmount 59 = .ok (.i2l, 1) := by decide +kernel
theorem dX4_takeAmount_60 : decode cX4_takeAmount 60 = .ok (.lmul, 1) := by decide +kernel
theorem dX4_takeAmount_61 : decode cX4_takeAmount 61 = .ok (.iload_n 3, 1) := by decide +kernel
theorem dX4_takeAmount_62 : decode cX4_takeAmount 62 = .ok (.i2l, 1) := by decide +kernel
theorem dX4_takeAmount_63 : decode cX4_takeAmount 63 = .ok (.ldiv, 1) := by decide +kernel
theorem dX4_takeAmount_64 : decode cX4_takeAmount 64 = .ok (.l2i, 1) := by decide +kernel
theorem dX4_takeAmount_65 : decode cX4_takeAmount 65 = .ok (.istore 7, 2) := by decide +kernel
theorem dX4_takeAmount_67 : decode cX4_takeAmount 67 = .ok (.aload_n 2, 1) := by decide +kernel
theorem dX4_takeAmount_68 : decode cX4_takeAmount 68 = .ok (.iload 6, 2) := by decide +kernel
theorem dX4_takeAmount_70 : decode cX4_takeAmount 70 = .ok (.dup2, 1) := by decide +kernel
theorem dX4_takeAmount_71 : decode cX4_takeAmount 71 = .ok (.iaload, 1) := by decide +kernel
theorem dX4_takeAmount_72 : decode cX4_takeAmount 72 = .ok (.iload 7, 2) := by decide +kernel
theorem dX4_takeAmount_74 : decode cX4_takeAmount 74 = .ok (.isub, 1) := by decide +kernel
theorem dX4_takeAmount_75 : decode cX4_takeAmount 75 = .ok (.iastore, 1) := by decide +kernel
theorem dX4_takeAmount_76 : decode cX4_takeAmount 76 = .ok (.iload 5, 2) := by decide +kernel
theorem dX4_takeAmount_78 : decode cX4_takeAmount 78 = .ok (.iload 7, 2) := by decide +kernel
theorem dX4_takeAmount_80 : decode cX4_takeAmount 80 = .ok (.isub, 1) := by decide +kernel
theorem dX4_takeAmount_81 : decode cX4_takeAmount 81 = .ok (.istore 5, 2) := by decide +kernel
theorem dX4_takeAmount_83 : decode cX4_takeAmount 83 = .ok (.iinc 6 1, 3) := by decide +kernel
theorem dX4_takeAmount_86 : decode cX4_takeAmount 86 = .ok (.goto (-57), 3) := by decide +kernel
theorem dX4_takeAmount_89 : decode cX4_takeAmount 89 = .ok (.aload_n 0, 1) := by decide +kernel
theorem dX4_takeAmount_90 : decode cX4_takeAmount 90 = .ok (.aload_n 1, 1) := by decide +kernel
theorem dX4_takeAmount_91 : decode cX4_takeAmount 91 = .ok (.aload_n 2, 1) := by decide +kernel
theorem dX4_takeAmount_92 : decode cX4_takeAmount 92 = .ok (.iload 5, 2) := by decide +kernel
theorem dX4_takeAmount_94 : decode cX4_takeAmount 94 = .ok (.invokevirtual 77, 3) := by decide +kernel
theorem dX4_takeAmount_97 : decode cX4_takeAmount 97 = .ok (.return_, 1) := by decide +kernel
theorem dX4_matchedRests_0 : decode cX4_matchedRests 0 = .ok (.iconst 0, 1) := by decide +kernel
theorem dX4_matchedRests_1 : decode cX4_matchedRests 1 = .ok (.istore_n 3, 1) := by decide +kernel
theorem dX4_matchedRests_2 : decode cX4_matchedRests 2 = .ok (.iconst 0, 1) := by decide +kernel
theorem dX4_matchedRests_3 : decode cX4_matchedRests 3 = .ok (.istore 4, 2) := by decide +kernel
theorem dX4_matchedRests_5 : decode cX4_matchedRests 5 = .ok (.iload 4, 2) := by decide +kernel
theorem dX4_matchedRests_7 : decode cX4_matchedRests 7 = .ok (.aload_n 0, 1) := by decide +kernel
theorem dX4_matchedRests_8 : decode cX4_matchedRests 8 = .ok (.getfield 26, 3) := by decide +kernel
theorem dX4_matchedRests_11 : decode cX4_matchedRests 11 = .ok (.if_icmp .ge 30, 3) := by decide +kernel
theorem dX4_matchedRests_14 : decode cX4_matchedRests 14 = .ok (.aload_n 1, 1) := by decide +kernel
theorem dX4_matchedRests_15 : decode cX4_matchedRests 15 = .ok (.aload_n 0, 1) := by decide +kernel
theorem dX4_matchedRests_16 : decode cX4_matchedRests 16 = .ok (.getfield 15, 3) := by decide +kernel
theorem dX4_matchedRests_19 : decode cX4_matchedRests 19 = .ok (.iload 4, 2) := by decide +kernel
theorem dX4_matchedRests_21 : decode cX4_matchedRests 21 = .ok (.iaload, 1) := by decide +kernel
theorem dX4_matchedRests_22 : decode cX4_matchedRests 22 = .ok (.invokevirtual 60, 3) := by decide +kernel
theorem dX4_matchedRests_25 : decode cX4_matchedRests 25 = .ok (.ifCond .eq 10, 3) := by decide +kernel
theorem dX4_matchedRests_28 : decode cX4_matchedRests 28 = .ok (.iload_n 3, 1) := by decide +kernel
theorem dX4_matchedRests_29 : decode cX4_matchedRests 29 = .ok (.aload_n 2, 1) := by decide +kernel
theorem dX4_matchedRests_30 : decode cX4_matchedRests 30 = .ok (.iload 4, 2) := by decide +kernel
theorem dX4_matchedRests_32 : decode cX4_matchedRests 32 = .ok (.iaload, 1) := by decide +kernel
theorem dX4_matchedRests_33 : decode cX4_matchedRests 33 = .ok (.iadd, 1) := by decide +kernel
theorem dX4_matchedRests_34 : decode cX4_matchedRests 34 = .ok (.istore_n 3, 1) := by decide +kernel
theorem dX4_matchedRests_35 : decode cX4_matchedRests 35 = .ok (.iinc 4 1, 3) := by decide +kernel
theorem dX4_matchedRests_38 : decode cX4_matchedRests 38 = .ok (.goto (-33), 3) := by decide +kernel
theorem dX4_matchedRests_41 : decode cX4_matchedRests 41 = .ok (.iload_n 3, 1) := by decide +kernel
theorem dX4_matchedRests_42 : decode cX4_matchedRests 42 = .ok (.ireturn, 1) := by decide +kernel
theorem dX4_takeOnes_0 : decode cX4_takeOnes 0 = .ok (.iload_n 3, 1) := by decide +kernel
theorem dX4_takeOnes_1 : decode cX4_takeOnes 1 = .ok (.istore 4, 2) := by decide +kernel
theorem dX4_takeOnes_3 : decode cX4_takeOnes 3 = .ok (.iconst 0, 1) := by decide +kernel
theorem dX4_takeOnes_4 : decode cX4_takeOnes 4 = .ok (.istore 5, 2) := by decide +kernel
theorem dX4_takeOnes_6 : decode cX4_takeOnes 6 = .ok (.iload 5, 2) := by decide +kernel
theorem dX4_takeOnes_8 : decode cX4_takeOnes 8 = .ok (.aload_n 0, 1) := by decide +kernel
theorem dX4_takeOnes_9 : decode cX4_takeOnes 9 = .ok (.getfield 26, 3) := by decide +kernel
theorem dX4_takeOnes_12 : decode cX4_takeOnes 12 = .ok (.if_icmp .ge 46, 3) := by decide +kernel
theorem dX4_takeOnes_15 : decode cX4_takeOnes 15 = .ok (.iload 4, 2) := by decide +kernel
theorem dX4_takeOnes_17 : decode cX4_takeOnes 17 = .ok (.ifCond .le 41, 3) := by decide +kernel
theorem dX4_takeOnes_20 : decode cX4_takeOnes 20 = .ok (.aload_n 2, 1) := by decide +kernel
theorem dX4_takeOnes_21 : decode cX4_takeOnes 21 = .ok (.iload 5, 2) := by decide +kernel
theorem dX4_takeOnes_23 : decode cX4_takeOnes 23 = .ok (.iaload, 1) := by decide +kernel
theorem dX4_takeOnes_24 : decode cX4_takeOnes 24 = .ok (.ifCond .le 28, 3) := by decide +kernel
theorem dX4_takeOnes_27 : decode cX4_takeOnes 27 = .ok (.aload_n 1, 1) := by decide +kernel
theorem dX4_takeOnes_28 : decode cX4_takeOnes 28 = .ok (.aload_n 0, 1) := by decide +kernel
theorem dX4_takeOnes_29 : decode cX4_takeOnes 29 = .ok (.getfield 15, 3) := by decide +kernel
theorem dX4_takeOnes_32 : decode cX4_takeOnes 32 = .ok (.iload 5, 2) := by decide +kernel
theorem dX4_takeOnes_34 : decode cX4_takeOnes 34 = .ok (.iaload, 1) := by decide +kernel
theorem dX4_takeOnes_35 : decode cX4_takeOnes 35 = .ok (.invokevirtual 60, 3) := by decide +kernel
theorem dX4_takeOnes_38 : decode cX4_takeOnes 38 = .ok (.ifCond .eq 14, 3) := by decide +kernel
theorem dX4_takeOnes_41 : decode cX4_takeOnes 41 = .ok (.aload_n 2, 1) := by decide +kernel
theorem dX4_takeOnes_42 : decode cX4_takeOnes 42 = .ok (.iload 5, 2) := by decide +kernel
theorem dX4_takeOnes_44 : decode cX4_takeOnes 44 = .ok (.dup2, 1) := by decide +kernel
theorem dX4_takeOnes_45 : decode cX4_takeOnes 45 = .ok (.iaload, 1) := by decide +kernel
theorem dX4_takeOnes_46 : decode cX4_takeOnes 46 = .ok (.iconst 1, 1) := by decide +kernel
theorem dX4_takeOnes_47 : decode cX4_takeOnes 47 = .ok (.isub, 1) := by decide +kernel
theorem dX4_takeOnes_48 : decode cX4_takeOnes 48 = .ok (.iastore, 1) := by decide +kernel
theorem dX4_takeOnes_49 : decode cX4_takeOnes 49 = .ok (.iinc 4 (-1), 3) := by decide +kernel
theorem dX4_takeOnes_52 : decode cX4_takeOnes 52 = .ok (.iinc 5 1, 3) := by decide +kernel
theorem dX4_takeOnes_55 : decode cX4_takeOnes 55 = .ok (.goto (-49), 3) := by decide +kernel
theorem dX4_takeOnes_58 : decode cX4_takeOnes 58 = .ok (.return_, 1) := by decide +kernel
theorem dX4_takeBundles_0 : decode cX4_takeBundles 0 = .ok (.aload_n 0, 1) := by decide +kernel
theorem dX4_takeBundles_1 : decode cX4_takeBundles 1 = .ok (.aload_n 1, 1) := by decide +kernel
theorem dX4_takeBundles_2 : decode cX4_takeBundles 2 = .ok (.aload_n 2, 1) := by decide +kernel
theorem dX4_takeBundles_3 : decode cX4_takeBundles 3 = .ok (.invokevirtual 81, 3) := by decide +kernel
theorem dX4_takeBundles_6 : decode cX4_takeBundles 6 = .ok (.istore_n 3, 1) := by decide +kernel
theorem dX4_takeBundles_7 : decode cX4_takeBundles 7 = .ok (.iconst 0, 1) := by decide +kernel
theorem dX4_takeBundles_8 : decode cX4_takeBundles 8 = .ok (.istore 4, 2) := by decide +kernel
theorem dX4_takeBundles_10 : decode cX4_takeBundles 10 = .ok (.iconst 0, 1) := by decide +kernel
theorem dX4_takeBundles_11 : decode cX4_takeBundles 11 = .ok (.istore 5, 2) := by decide +kernel
theorem dX4_takeBundles_13 : decode cX4_takeBundles 13 = .ok (.iload 5, 2) := by decide +kernel
theorem dX4_takeBundles_15 : decode cX4_takeBundles 15 = .ok (.iload_n 3, 1) := by decide +kernel
theorem dX4_takeBundles_16 : decode cX4_takeBundles 16 = .ok (.if_icmp .ge 34, 3) := by decide +kernel
theorem dX4_takeBundles_19 : decode cX4_takeBundles 19 = .ok (.iinc 4 1, 3) := by decide +kernel
theorem dX4_takeBundles_22 : decode cX4_takeBundles 22 = .ok (.iload 4, 2) := by decide +kernel
theorem dX4_takeBundles_24 : decode cX4_takeBundles 24 = .ok (.aload_n 1, 1) := by decide +kernel
theorem dX4_takeBundles_25 : decode cX4_takeBundles 25 = .ok (.getfield 64, 3) := by decide +kernel
theorem dX4_takeBundles_28 : decode cX4_takeBundles 28 = .ok (.if_icmp .ne 16, 3) := by decide +kernel
theorem dX4_takeBundles_31 : decode cX4_takeBundles 31 = .ok (.aload_n 2, 1) := by decide +kernel
theorem dX4_takeBundles_32 : decode cX4_takeBundles 32 = .ok (.aload_n 0, 1) := by decide +kernel
theorem dX4_takeBundles_33 : decode cX4_takeBundles 33 = .ok (.getfield 23, 3) := by decide +kernel
theorem dX4_takeBundles_36 : decode cX4_takeBundles 36 = .ok (.iload 5, 2) := by decide +kernel
theorem dX4_takeBundles_38 : decode cX4_takeBundles 38 = .ok (.iaload, 1) := by decide +kernel
theorem dX4_takeBundles_39 : decode cX4_takeBundles 39 = .ok (.iconst 0, 1) := by decide +kernel
theorem dX4_takeBundles_40 : decode cX4_takeBundles 40 = .ok (.iastore, 1) := by decide +kernel
theorem dX4_takeBundles_41 : decode cX4_takeBundles 41 = .ok (.iconst 0, 1) := by decide +kernel
theorem dX4_takeBundles_42 : decode cX4_takeBundles 42 = .ok (.istore 4, 2) := by decide +kernel
theorem dX4_takeBundles_44 : decode cX4_takeBundles 44 = .ok (.iinc 5 1, 3) := by decide +kernel
theorem dX4_takeBundles_47 : decode cX4_takeBundles 47 = .ok (.goto (-34), 3) := by decide +kernel
theorem dX4_takeBundles_50 : decode cX4_takeBundles 50 = .ok (.return_, 1) := by decide +kernel
theorem dX4_rankMatched_0 : decode cX4_rankMatched 0 = .ok (.iconst 0, 1) := by decide +kernel
theorem dX4_rankMatched_1 : decode cX4_rankMatched 1 = .ok (.istore_n 3, 1) := by decide +kernel
theorem dX4_rankMatched_2 : decode cX4_rankMatched 2 = .ok (.iconst 0, 1) := by decide +kernel
theorem dX4_rankMatched_3 : decode cX4_rankMatched 3 = .ok (.istore 4, 2) := by decide +kernel
theorem dX4_rankMatched_5 : decode cX4_rankMatched 5 = .ok (.iload 4, 2) := by decide +kernel
theorem dX4_rankMatched_7 : decode cX4_rankMatched 7 = .ok (.aload_n 0, 1) := by decide +kernel
theorem dX4_rankMatched_8 : decode cX4_rankMatched 8 = .ok (.getfield 26, 3) := by decide +kernel
theorem dX4_rankMatched_11 : decode cX4_rankMatched 11 = .ok (.if_icmp .ge 83, 3) := by decide +kernel
theorem dX4_rankMatched_14 : decode cX4_rankMatched 14 = .ok (.aload_n 1, 1) := by decide +kernel
theorem dX4_rankMatched_15 : decode cX4_rankMatched 15 = .ok (.aload_n 0, 1) := by decide +kernel
theorem dX4_rankMatched_16 : decode cX4_rankMatched 16 = .ok (.getfield 15, 3) := by decide +kernel
theorem dX4_rankMatched_19 : decode cX4_rankMatched 19 = .ok (.iload 4, 2) := by decide +kernel
theorem dX4_rankMatched_21 : decode cX4_rankMatched 21 = .ok (.iaload, 1) := by decide +kernel
theorem dX4_rankMatched_22 : decode cX4_rankMatched 22 = .ok (.invokevirtual 60, 3) := by decide +kernel
theorem dX4_rankMatched_25 : decode cX4_rankMatched 25 = .ok (.ifCond .eq 63, 3) := by decide +kernel
theorem dX4_rankMatched_28 : decode cX4_rankMatched 28 = .ok (.iload_n 3, 1) := by decide +kernel
theorem dX4_rankMatched_29 : decode cX4_rankMatched 29 = .ok (.istore 5, 2) := by decide +kernel
theorem dX4_rankMatched_31 : decode cX4_rankMatched 31 = .ok (.iload 5, 2) := by decide +kernel
theorem dX4_rankMatched_33 : decode cX4_rankMatched 33 = .ok (.ifCond .le 43, 3) := by decide +kernel
theorem dX4_rankMatched_36 : decode cX4_rankMatched 36 = .ok (.aload_n 2, 1) := by decide +kernel
theorem dX4_rankMatched_37 : decode cX4_rankMatched 37 = .ok (.aload_n 0, 1) := by decide +kernel
theorem dX4_rankMatched_38 : decode cX4_rankMatched 38 = .ok (.getfield 23, 3) := by decide +kernel
theorem dX4_rankMatched_41 : decode cX4_rankMatched 41 = .ok (.iload 5, 2) := by decide +kernel
theorem dX4_rankMatched_43 : decode cX4_rankMatched 43 = .ok (.iconst 1, 1) := by decide +kernel
theorem dX4_rankMatched_44 : decode cX4_rankMatched 44 = .ok (.isub, 1) := by decide +kernel
theorem dX4_rankMatched_45 : decode cX4_rankMatched 45 = .ok (.iaload, 1) := by decide +kernel
theorem dX4_rankMatched_46 : decode cX4_rankMatched 46 = .ok (.iaload, 1) := by decide +kernel
theorem dX4_rankMatched_47 : decode cX4_rankMatched 47 = .ok (.aload_n 2, 1) := by decide +kernel
theorem dX4_rankMatched_48 : decode cX4_rankMatched 48 = .ok (.iload 4, 2) := by decide +kernel
theorem dX4_rankMatched_50 : decode cX4_rankMatched 50 = .ok (.iaload, 1) := by decide +kernel
theorem dX4_rankMatched_51 : decode cX4_rankMatched 51 = .ok (.if_icmp .ge 25, 3) := by decide +kernel
theorem dX4_rankMatched_54 : decode cX4_rankMatched 54 = .ok (.aload_n 0, 1) := by decide +kernel
theorem dX4_rankMatched_55 : decode cX4_rankMatched 55 = .ok (.getfield 23, 3) := by decide +kernel
theorem dX4_rankMatched_58 : decode cX4_rankMatched 58 = .ok (.iload 5, 2) := by decide +kernel
theorem dX4_rankMatched_60 : decode cX4_rankMatched 60 = .ok (.aload_n 0, 1) := by decide +kernel
theorem dX4_rankMatched_61 : decode cX4_rankMatched 61 = .ok (.getfield 23, 3) := by decide +kernel
theorem dX4_rankMatched_64 : decode cX4_rankMatched 64 = .ok (.iload 5, 2) := by decide +kernel
theorem dX4_rankMatched_66 : decode cX4_rankMatched 66 = .ok (.iconst 1, 1) := by decide +kernel
theorem dX4_rankMatched_67 : decode cX4_rankMatched 67 = .ok (.isub, 1) := by decide +kernel
theorem dX4_rankMatched_68 : decode cX4_rankMatched 68 = .ok (.iaload, 1) := by decide +kernel
theorem dX4_rankMatched_69 : decode cX4_rankMatched 69 = .ok (.iastore, 1) := by decide +kernel
theorem dX4_rankMatched_70 : decode cX4_rankMatched 70 = .ok (.iinc 5 (-1), 3) := by decide +kernel
theorem dX4_rankMatched_73 : decode cX4_rankMatched 73 = .ok (.goto (-42), 3) := by decide +kernel
theorem dX4_rankMatched_76 : decode cX4_rankMatched 76 = .ok (.aload_n 0, 1) := by decide +kernel
theorem dX4_rankMatched_77 : decode cX4_rankMatched 77 = .ok (.getfield 23, 3) := by decide +kernel
theorem dX4_rankMatched_80 : decode cX4_rankMatched 80 = .ok (.iload 5, 2) := by decide +kernel
theorem dX4_rankMatched_82 : decode cX4_rankMatched 82 = .ok (.iload 4, 2) := by decide +kernel
theorem dX4_rankMatched_84 : decode cX4_rankMatched 84 = .ok (.iastore, 1) := by decide +kernel
theorem dX4_rankMatched_85 : decode cX4_rankMatched 85 = .ok (.iinc 3 1, 3) := by decide +kernel
theorem dX4_rankMatched_88 : decode cX4_rankMatched 88 = .ok (.iinc 4 1, 3) := by decide +kernel
theorem dX4_rankMatched_91 : decode cX4_rankMatched 91 = .ok (.goto (-86), 3) := by decide +kernel
theorem dX4_rankMatched_94 : decode cX4_rankMatched 94 = .ok (.iload_n 3, 1) := by decide +kernel
theorem dX4_rankMatched_95 : decode cX4_rankMatched 95 = .ok (.ireturn, 1) := by decide +kernel
theorem dX5_init_0 : decode cX5_init 0 = .ok (.aload_n 0, 1) := by decide +kernel
theorem dX5_init_1 : decode cX5_init 1 = .ok (.invokespecial 3, 3) := by decide +kernel
theorem dX5_init_4 : decode cX5_init 4 = .ok (.aload_n 0, 1) := by decide +kernel
theorem dX5_init_5 : decode cX5_init 5 = .ok (.new 9, 3) := by decide +kernel
theorem dX5_init_8 : decode cX5_init 8 = .ok (.dup, 1) := by decide +kernel
theorem dX5_init_9 : decode cX5_init 9 = .ok (.invokespecial 11, 3) := by decide +kernel
theorem dX5_init_12 : decode cX5_init 12 = .ok (.putfield 12, 3) := by decide +kernel
theorem dX5_init_15 : decode cX5_init 15 = .ok (.aload_n 0, 1) := by decide +kernel
theorem dX5_init_16 : decode cX5_init 16 = .ok (.bipush 8, 2) := by decide +kernel
theorem dX5_init_18 : decode cX5_init 18 = .ok (.anewarray 16, 3) := by decide +kernel
theorem dX5_init_21 : decode cX5_init 21 = .ok (.putfield 18, 3) := by decide +kernel
theorem dX5_init_24 : decode cX5_init 24 = .ok (.aload_n 0, 1) := by decide +kernel
theorem dX5_init_25 : decode cX5_init 25 = .ok (.bipush 12, 2) := by decide +kernel
theorem dX5_init_27 : decode cX5_init 27 = .ok (.anewarray 22, 3) := by decide +kernel
theorem dX5_init_30 : decode cX5_init 30 = .ok (.putfield 24, 3) := by decide +kernel
theorem dX5_init_33 : decode cX5_init 33 = .ok (.aload_n 0, 1) := by decide +kernel
theorem dX5_init_34 : decode cX5_init 34 = .ok (.new 28, 3) := by decide +kernel
theorem dX5_init_37 : decode cX5_init 37 = .ok (.dup, 1) := by decide +kernel
theorem dX5_init_38 : decode cX5_init 38 = .ok (.invokespecial 30, 3) := by decide +kernel
theorem dX5_init_41 : decode cX5_init 41 = .ok (.putfield 31, 3) := by decide +kernel
theorem dX5_init_44 : decode cX5_init 44 = .ok (.aload_n 0, 1) := by decide +kernel
theorem dX5_init_45 : decode cX5_init 45 = .ok (.new 35, 3) := by decide +kernel
theorem dX5_init_48 : decode cX5_init 48 = .ok (.dup, 1) := by decide +kernel
theorem dX5_init_49 : decode cX5_init 49 = .ok (.invokespecial 37, 3) := by decide +kernel
theorem dX5_init_52 : decode cX5_init 52 = .ok (.putfield 38, 3) := by decide +kernel
theorem dX5_init_55 : decode cX5_init 55 = .ok (.aload_n 0, 1) := by decide +kernel
theorem dX5_init_56 : decode cX5_init 56 = .ok (.iconst 0, 1) := by decide +kernel
theorem dX5_init_57 : decode cX5_init 57 = .ok (.putfield 42, 3) := by decide +kernel
theorem dX5_init_60 : decode cX5_init 60 = .ok (.aload_n 0, 1) := by decide +kernel
theorem dX5_init_61 : decode cX5_init 61 = .ok (.iconst 0, 1) := by decide +kernel
theorem dX5_init_62 : decode cX5_init 62 = .ok (.putfield 46, 3) := by decide +kernel
theorem dX5_init_65 : decode cX5_init 65 = .ok (.aload_n 0, 1) := by decide +kernel
theorem dX5_init_66 : decode cX5_init 66 = .ok (.iconst 0, 1) := by decide +kernel
theorem dX5_init_67 : decode cX5_init 67 = .ok (.putfield 49, 3) := by decide +kernel
theorem dX5_init_70 : decode cX5_init 70 = .ok (.aload_n 0, 1) := by decide +kernel
theorem dX5_init_71 : decode cX5_init 71 = .ok (.iconst 0, 1) := by decide +kernel
theorem dX5_init_72 : decode cX5_init 72 = .ok (.putfield 52, 3) := by decide +kernel
theorem dX5_init_75 : decode cX5_init 75 = .ok (.aload_n 0, 1) := by decide +kernel
theorem dX5_init_76 : decode cX5_init 76 = .ok (.ldc 55, 2) := by decide +kernel
theorem dX5_init_78 : decode cX5_init 78 = .ok (.putfield 56, 3) := by decide +kernel
theorem dX5_init_81 : decode cX5_init 81 = .ok (.iconst 0, 1) := by decide +kernel
theorem dX5_init_82 : decode cX5_init 82 = .ok (.istore_n 1, 1) := by decide +kernel
theorem dX5_init_83 : decode cX5_init 83 = .ok (.iload_n 1, 1) := by decide +kernel
theorem dX5_init_84 : decode cX5_init 84 = .ok (.bipush 8, 2) := by decide +kernel
theorem dX5_init_86 : decode cX5_init 86 = .ok (.if_icmp .ge 22, 3) := by decide +kernel
theorem dX5_init_89 : decode cX5_init 89 = .ok (.aload_n 0, 1) := by decide +kernel
theorem dX5_init_90 : decode cX5_init 90 = .ok (.getfield 18, 3) := by decide +kernel
theorem dX5_init_93 : decode cX5_init 93 = .ok (.iload_n 1, 1) := by decide +kernel
theorem dX5_init_94 : decode cX5_init 94 = .ok (.new 16, 3) := by decide +kernel
theorem dX5_init_97 : decode cX5_init 97 = .ok (.dup, 1) := by decide +kernel
theorem dX5_init_98 : decode cX5_init 98 = .ok (.invokespecial 59, 3) := by decide +kernel
theorem dX5_init_101 : decode cX5_init 101 = .ok (.aastore, 1) := by decide +kernel
theorem dX5_init_102 : decode cX5_init 102 = .ok (.iinc 1 1, 3) := by decide +kernel
theorem dX5_init_105 : decode cX5_init 105 = .ok (.goto (-22), 3) := by decide +kernel
theorem dX5_init_108 : decode cX5_init 108 = .ok (.iconst 0, 1) := by decide +kernel
theorem dX5_init_109 : decode cX5_init 109 = .ok (.istore_n 1, 1) := by decide +kernel
theorem dX5_init_110 : decode cX5_init 110 = .ok (.iload_n 1, 1) := by decide +kernel
theorem dX5_init_111 : decode cX5_init 111 = .ok (.bipush 12, 2) := by decide +kernel
theorem dX5_init_113 : decode cX5_init 113 = .ok (.if_icmp .ge 22, 3) := by decide +kernel
theorem dX5_init_116 : decode cX5_init 116 = .ok (.aload_n 0, 1) := by decide +kernel
theorem dX5_init_117 : decode cX5_init 117 = .ok (.getfield 24, 3) := by decide +kernel
theorem dX5_init_120 : decode cX5_init 120 = .ok (.iload_n 1, 1) := by decide +kernel
theorem dX5_init_121 : decode cX5_init 121 = .ok (.new 22, 3) := by decide +kernel
theorem dX5_init_124 : decode cX5_init 124 = .ok (.dup, 1) := by decide +kernel
theorem dX5_init_125 : decode cX5_init 125 = .ok (.invokespecial 60, 3) := by decide +kernel
theorem dX5_init_128 : decode cX5_init 128 = .ok (.aastore, 1) := by decide +kernel
theorem dX5_init_129 : decode cX5_init 129 = .ok (.iinc 1 1, 3) := by decide +kernel
theorem dX5_init_132 : decode cX5_init 132 = .ok (.goto (-22), 3) := by decide +kernel
theorem dX5_init_135 : decode cX5_init 135 = .ok (.return_, 1) := by decide +kernel
theorem dX5_addArticle_0 : decode cX5_addArticle 0 = .ok (.iload_n 1, 1) := by decide +kernel
theorem dX5_addArticle_1 : decode cX5_addArticle 1 = .ok (.invokestatic 61, 3) := by decide +kernel
theorem dX5_addArticle_4 : decode cX5_addArticle 4 = .ok (.iload_n 2, 1) := by decide +kernel
theorem dX5_addArticle_5 : decode cX5_addArticle 5 = .ok (.ifCond .lt 9, 3) := by decide +kernel
theorem dX5_addArticle_8 : decode cX5_addArticle 8 = .ok (.iload_n 2, 1) := by decide +kernel
theorem dX5_addArticle_9 : decode cX5_addArticle 9 = .ok (.bipush 7, 2) := by decide +kernel
theorem dX5_addArticle_11 : decode cX5_addArticle 11 = .ok (.if_icmp .le 13, 3) := by decide +kernel
theorem dX5_addArticle_14 : decode cX5_addArticle 14 = .ok (.new 65, 3) := by decide +kernel
theorem dX5_addArticle_17 : decode cX5_addArticle 17 = .ok (.dup, 1) := by decide +kernel
theorem dX5_addArticle_18 : decode cX5_addArticle 18 = .ok (.ldc 67, 2) := by decide +kernel
theorem dX5_addArticle_20 : decode cX5_addArticle 20 = .ok (.invokespecial 69, 3) := by decide +kernel
theorem dX5_addArticle_23 : decode cX5_addArticle 23 = .ok (.athrow, 1) := by decide +kernel
theorem dX5_addArticle_24 : decode cX5_addArticle 24 = .ok (.aload_n 0, 1) := by decide +kernel
theorem dX5_addArticle_25 : decode cX5_addArticle 25 = .ok (.getfield 42, 3) := by decide +kernel
theorem dX5_addArticle_28 : decode cX5_addArticle 28 = .ok (.bipush 10, 2) := by decide +kernel
theorem dX5_addArticle_30 : decode cX5_addArticle 30 = .ok (.if_icmp .lt 13, 3) := by decide +kernel
theorem dX5_addArticle_33 : decode cX5_addArticle 33 = .ok (.new 72, 3) := by decide +kernel
theorem dX5_addArticle_36 : decode cX5_addArticle 36 = .ok (.dup, 1) := by decide +kernel
theorem dX5_addArticle_37 : decode cX5_addArticle 37 = .ok (.ldc 74, 2) := by decide +kernel
theorem dX5_addArticle_39 : decode cX5_addArticle 39 = .ok (.invokespecial 76, 3) := by decide +kernel
theorem dX5_addArticle_42 : decode cX5_addArticle 42 = .ok (.athrow, 1) := by decide +kernel
theorem dX5_addArticle_43 : decode cX5_addArticle 43 = .ok (.aload_n 0, 1) := by decide +kernel
theorem dX5_addArticle_44 : decode cX5_addArticle 44 = .ok (.getfield 42, 3) := by decide +kernel
theorem dX5_addArticle_47 : decode cX5_addArticle 47 = .ok (.istore_n 3, 1) := by decide +kernel
theorem dX5_addArticle_48 : decode cX5_addArticle 48 = .ok (.aload_n 0, 1) := by decide +kernel
theorem dX5_addArticle_49 : decode cX5_addArticle 49 = .ok (.getfield 12, 3) := by decide +kernel
theorem dX5_addArticle_52 : decode cX5_addArticle 52 = .ok (.getfield 77, 3) := by decide +kernel
theorem dX5_addArticle_55 : decode cX5_addArticle 55 = .ok (.iload_n 3, 1) := by decide +kernel
theorem dX5_addArticle_56 : decode cX5_addArticle 56 = .ok (.iload_n 1, 1) := by decide +kernel
theorem dX5_addArticle_57 : decode cX5_addArticle 57 = .ok (.iastore, 1) := by decide +kernel
theorem dX5_addArticle_58 : decode cX5_addArticle 58 = .ok (.aload_n 0, 1) := by decide +kernel
theorem dX5_addArticle_59 : decode cX5_addArticle 59 = .ok (.getfield 12, 3) := by decide +kernel
theorem dX5_addArticle_62 : decode cX5_addArticle 62 = .ok (.getfield 81, 3) := by decide +kernel
theorem dX5_addArticle_65 : decode cX5_addArticle 65 = .ok (.iload_n 3, 1) := by decide +kernel
theorem dX5_addArticle_66 : decode cX5_addArticle 66 = .ok (.iload_n 2, 1) := by decide +kernel
theorem dX5_addArticle_67 : decode cX5_addArticle 67 = .ok (.iastore, 1) := by decide +kernel
theorem dX5_addArticle_68 : decode cX5_addArticle 68 = .ok (.aload_n 0, 1) := by decide +kernel
theorem dX5_addArticle_69 : decode cX5_addArticle 69 = .ok (.dup, 1) := by decide +kernel
theorem dX5_addArticle_70 : decode cX5_addArticle 70 = .ok (.getfield 42, 3) := by decide +kernel
theorem dX5_addArticle_73 : decode cX5_addArticle 73 = .ok (.iconst 1, 1) := by decide +kernel
theorem dX5_addArticle_74 : decode cX5_addArticle 74 = .ok (.iadd, 1) := by decide +kernel
theorem dX5_addArticle_75 : decode cX5_addArticle 75 = .ok (.putfield 42, 3) := by decide +kernel
theorem dX5_addArticle_78 : decode cX5_addArticle 78 = .ok (.iload_n 3, 1) := by decide +kernel
theorem dX5_addArticle_79 : decode cX5_addArticle 79 = .ok (.ireturn, 1) := by decide +kernel
theorem dX5_put_0 : decode cX5_put 0 = .ok (.aload_n 0, 1) := by decide +kernel
theorem dX5_put_1 : decode cX5_put 1 = .ok (.iload_n 1, 1) := by decide +kernel
theorem dX5_put_2 : decode cX5_put 2 = .ok (.invokevirtual 84, 3) := by decide +kernel
theorem dX5_put_5 : decode cX5_put 5 = .ok (.iload_n 2, 1) := by decide +kernel
theorem dX5_put_6 : decode cX5_put 6 = .ok (.ifCond .lt 9, 3) := by decide +kernel
theorem dX5_put_9 : decode cX5_put 9 = .ok (.iload_n 2, 1) := by decide +kernel
theorem dX5_put_10 : decode cX5_put 10 = .ok (.bipush 6, 2) := by decide +kernel
theorem dX5_put_12 : decode cX5_put 12 = .ok (.if_icmp .le 13, 3) := by decide +kernel
theorem dX5_put_15 : decode cX5_put 15 = .ok (.new 65, 3) := by decide +kernel
theorem dX5_put_18 : decode cX5_put 18 = .ok (.dup, 1) := by decide +kernel
theorem dX5_put_19 : decode cX5_put 19 = .ok (.ldc 87, 2) := by decide +kernel
theorem dX5_put_21 : decode cX5_put 21 = .ok (.invokespecial 69, 3) := by decide +kernel
theorem dX5_put_24 : decode cX5_put 24 = .ok (.athrow, 1) := by decide +kernel
theorem dX5_put_25 : decode cX5_put 25 = .ok (.aload_n 0, 1) := by decide +kernel
theorem dX5_put_26 : decode cX5_put 26 = .ok (.getfield 12, 3) := by decide +kernel
theorem dX5_put_29 : decode cX5_put 29 = .ok (.getfield 89, 3) := by decide +kernel
theorem dX5_put_32 : decode cX5_put 32 = .ok (.iload_n 1, 1) := by decide +kernel
theorem dX5_put_33 : decode cX5_put 33 = .ok (.iaload, 1) := by decide +kernel
theorem dX5_put_34 : decode cX5_put 34 = .ok (.istore_n 3, 1) := by decide +kernel
theorem dX5_put_35 : decode cX5_put 35 = .ok (.aload_n 0, 1) := by decide +kernel
theorem dX5_put_36 : decode cX5_put 36 = .ok (.getfield 12, 3) := by decide +kernel
theorem dX5_put_39 : decode cX5_put 39 = .ok (.getfield 89, 3) := by decide +kernel
theorem dX5_put_42 : decode cX5_put 42 = .ok (.iload_n 1, 1) := by decide +kernel
theorem dX5_put_43 : decode cX5_put 43 = .ok (.iload_n 2, 1) := by decide +kernel
theorem dX5_put_44 : decode cX5_put 44 = .ok (.iastore, 1) := by decide +kernel
theorem dX5_put_45 : decode cX5_put 45 = .ok (.iload_n 3, 1) := by decide +kernel
theorem dX5_put_46 : decode cX5_put 46 = .ok (.ireturn, 1) := by decide +kernel
theorem dX5_value_0 : decode cX5_value 0 = .ok (.aload_n 0, 1) := by decide +kernel
theorem dX5_value_1 : decode cX5_value 1 = .ok (.getfield 12, 3) := by decide +kernel
theorem dX5_value_4 : decode cX5_value 4 = .ok (.sipush 255, 3) := by decide +kernel
theorem dX5_value_7 : decode cX5_value 7 = .ok (.invokevirtual 92, 3) := by decide +kernel
theorem dX5_value_10 : decode cX5_value 10 = .ok (.ireturn, 1) := by decide +kernel
theorem dX5_setShipping_0 : decode cX5_setShipping 0 = .ok (.iload_n 1, 1) := by decide +kernel
theorem dX5_setShipping_1 : decode cX5_setShipping 1 = .ok (.ifCond .lt 10, 3) := by decide +kernel
theorem dX5_setShipping_4 : decode cX5_setShipping 4 = .ok (.iload_n 1, 1) := by decide +kernel
theorem dX5_setShipping_5 : decode cX5_setShipping 5 = .ok (.sipush 10000, 3) := by decide +kernel
theorem dX5_setShipping_8 : decode cX5_setShipping 8 = .ok (.if_icmp .le 13, 3) := by decide +kernel
theorem dX5_setShipping_11 : decode cX5_setShipping 11 = .ok (.new 65, 3) := by decide +kernel
theorem dX5_setShipping_14 : decode cX5_setShipping 14 = .ok (.dup, 1) := by decide +kernel
theorem dX5_setShipping_15 : decode cX5_setShipping 15 = .ok (.ldc 96, 2) := by decide +kernel
theorem dX5_setShipping_17 : decode cX5_setShipping 17 = .ok (.invokespecial 69, 3) := by decide +kernel
theorem dX5_setShipping_20 : decode cX5_setShipping 20 = .ok (.athrow, 1) := by decide +kernel
theorem dX5_setShipping_21 : decode cX5_setShipping 21 = .ok (.iload_n 2, 1) := by decide +kernel
theorem dX5_setShipping_22 : decode cX5_setShipping 22 = .ok (.ifCond .lt 9, 3) := by decide +kernel
theorem dX5_setShipping_25 : decode cX5_setShipping 25 = .ok (.iload_n 2, 1) := by decide +kernel
theorem dX5_setShipping_26 : decode cX5_setShipping 26 = .ok (.ldc 55, 2) := by decide +kernel
theorem dX5_setShipping_28 : decode cX5_setShipping 28 = .ok (.if_icmp .le 13, 3) := by decide +kernel
theorem dX5_setShipping_31 : decode cX5_setShipping 31 = .ok (.new 65, 3) := by decide +kernel
theorem dX5_setShipping_34 : decode cX5_setShipping 34 = .ok (.dup, 1) := by decide +kernel
theorem dX5_setShipping_35 : decode cX5_setShipping 35 = .ok (.ldc 98, 2) := by decide +kernel
theorem dX5_setShipping_37 : decode cX5_setShipping 37 = .ok (.invokespecial 69, 3) := by decide +kernel
theorem dX5_setShipping_40 : decode cX5_setShipping 40 = .ok (.athrow, 1) := by decide +kernel
theorem dX5_setShipping_41 : decode cX5_setShipping 41 = .ok (.aload_n 0, 1) := by decide +kernel
theorem dX5_setShipping_42 : decode cX5_setShipping 42 = .ok (.getfield 52, 3) := by decide +kernel
theorem dX5_setShipping_45 : decode cX5_setShipping 45 = .ok (.istore_n 3, 1) := by decide +kernel
theorem dX5_setShipping_46 : decode cX5_setShipping 46 = .ok (.aload_n 0, 1) := by decide +kernel
theorem dX5_setShipping_47 : decode cX5_setShipping 47 = .ok (.iload_n 1, 1) := by decide +kernel
theorem dX5_setShipping_48 : decode cX5_setShipping 48 = .ok (.putfield 52, 3) := by decide +kernel
theorem dX5_setShipping_51 : decode cX5_setShipping 51 = .ok (.aload_n 0, 1) := by decide +kernel
theorem dX5_setShipping_52 : decode cX5_setShipping 52 = .ok (.iload_n 2, 1) := by decide +kernel
theorem dX5_setShipping_53 : decode cX5_setShipping 53 = .ok (.putfield 56, 3) := by decide +kernel
theorem dX5_setShipping_56 : decode cX5_setShipping 56 = .ok (.iload_n 3, 1) := by decide +kernel
theorem dX5_setShipping_57 : decode cX5_setShipping 57 = .ok (.ireturn, 1) := by decide +kernel
theorem dX5_addCoupon_0 : decode cX5_addCoupon 0 = .ok (.iload_n 1, 1) := by decide +kernel
theorem dX5_addCoupon_1 : decode cX5_addCoupon 1 = .ok (.iload_n 2, 1) := by decide +kernel
theorem dX5_addCoupon_2 : decode cX5_addCoupon 2 = .ok (.invokestatic 100, 3) := by decide +kernel
theorem dX5_addCoupon_5 : decode cX5_addCoupon 5 = .ok (.ifCond .ne 13, 3) := by decide +kernel
theorem dX5_addCoupon_8 : decode cX5_addCoupon 8 = .ok (.new 65, 3) := by decide +kernel
theorem dX5_addCoupon_11 : decode cX5_addCoupon 11 = .ok (.dup, 1) := by decide +kernel
theorem dX5_addCoupon_12 : decode cX5_addCoupon 12 = .ok (.ldc 104, 2) := by decide +kernel
theorem dX5_addCoupon_14 : decode cX5_addCoupon 14 = .ok (.invokespecial 69, 3) := by decide +kernel
theorem dX5_addCoupon_17 : decode cX5_addCoupon 17 = .ok (.athrow, 1) := by decide +kernel
theorem dX5_addCoupon_18 : decode cX5_addCoupon 18 = .ok (.iload_n 3, 1) := by decide +kernel
theorem dX5_addCoupon_19 : decode cX5_addCoupon 19 = .ok (.iconst 1, 1) := by decide +kernel
theorem dX5_addCoupon_20 : decode cX5_addCoupon 20 = .ok (.if_icmp .lt 10, 3) := by decide +kernel
theorem dX5_addCoupon_23 : decode cX5_addCoupon 23 = .ok (.iload_n 3, 1) := by decide +kernel
theorem dX5_addCoupon_24 : decode cX5_addCoupon 24 = .ok (.sipush 255, 3) := by decide +kernel
theorem dX5_addCoupon_27 : decode cX5_addCoupon 27 = .ok (.if_icmp .le 13, 3) := by decide +kernel
theorem dX5_addCoupon_30 : decode cX5_addCoupon 30 = .ok (.new 65, 3) := by decide +kernel
theorem dX5_addCoupon_33 : decode cX5_addCoupon 33 = .ok (.dup, 1) := by decide +kernel
theorem dX5_addCoupon_34 : decode cX5_addCoupon 34 = .ok (.ldc 106, 2) := by decide +kernel
theorem dX5_addCoupon_36 : decode cX5_addCoupon 36 = .ok (.invokespecial 69, 3) := by decide +kernel
theorem dX5_addCoupon_39 : decode cX5_addCoupon 39 = .ok (.athrow, 1) := by decide +kernel
theorem dX5_addCoupon_40 : decode cX5_addCoupon 40 = .ok (.iload 4, 2) := by decide +kernel
theorem dX5_addCoupon_42 : decode cX5_addCoupon 42 = .ok (.ifCond .lt 10, 3) := by decide +kernel
theorem dX5_addCoupon_45 : decode cX5_addCoupon 45 = .ok (.iload 4, 2) := by decide +kernel
theorem dX5_addCoupon_47 : decode cX5_addCoupon 47 = .ok (.ldc 55, 2) := by decide +kernel
theorem dX5_addCoupon_49 : decode cX5_addCoupon 49 = .ok (.if_icmp .le 13, 3) := by decide +kernel
theorem dX5_addCoupon_52 : decode cX5_addCoupon 52 = .ok (.new 65, 3) := by decide +kernel
theorem dX5_addCoupon_55 : decode cX5_addCoupon 55 = .ok (.dup, 1) := by decide +kernel
theorem dX5_addCoupon_56 : decode cX5_addCoupon 56 = .ok (.ldc 108, 2) := by decide +kernel
theorem dX5_addCoupon_58 : decode cX5_addCoupon 58 = .ok (.invokespecial 69, 3) := by decide +kernel
theorem dX5_addCoupon_61 : decode cX5_addCoupon 61 = .ok (.athrow, 1) := by decide +kernel
theorem dX5_addCoupon_62 : decode cX5_addCoupon 62 = .ok (.iload 5, 2) := by decide +kernel
theorem dX5_addCoupon_64 : decode cX5_addCoupon 64 = .ok (.ifCond .lt 9, 3) := by decide +kernel
theorem dX5_addCoupon_67 : decode cX5_addCoupon 67 = .ok (.iload 5, 2) := by decide +kernel
theorem dX5_addCoupon_69 : decode cX5_addCoupon 69 = .ok (.iconst 3, 1) := by decide +kernel
theorem dX5_addCoupon_70 : decode cX5_addCoupon 70 = .ok (.if_icmp .le 13, 3) := by decide +kernel
theorem dX5_addCoupon_73 : decode cX5_addCoupon 73 = .ok (.new 65, 3) := by decide +kernel
theorem dX5_addCoupon_76 : decode cX5_addCoupon 76 = .ok (.dup, 1) := by decide +kernel
theorem dX5_addCoupon_77 : decode cX5_addCoupon 77 = .ok (.ldc 110, 2) := by decide +kernel
theorem dX5_addCoupon_79 : decode cX5_addCoupon 79 = .ok (.invokespecial 69, 3) := by decide +kernel
theorem dX5_addCoupon_82 : decode cX5_addCoupon 82 = .ok (.athrow, 1) := by decide +kernel
theorem dX5_addCoupon_83 : decode cX5_addCoupon 83 = .ok (.aload_n 0, 1) := by decide +kernel
theorem dX5_addCoupon_84 : decode cX5_addCoupon 84 = .ok (.getfield 46, 3) := by decide +kernel
theorem dX5_addCoupon_87 : decode cX5_addCoupon 87 = .ok (.bipush 8, 2) := by decide +kernel
theorem dX5_addCoupon_89 : decode cX5_addCoupon 89 = .ok (.if_icmp .lt 13, 3) := by decide +kernel
theorem dX5_addCoupon_92 : decode cX5_addCoupon 92 = .ok (.new 72, 3) := by decide +kernel
theorem dX5_addCoupon_95 : decode cX5_addCoupon 95 = .ok (.dup, 1) := by decide +kernel
theorem dX5_addCoupon_96 : decode cX5_addCoupon 96 = .ok (.ldc 112, 2) := by decide +kernel
theorem dX5_addCoupon_98 : decode cX5_addCoupon 98 = .ok (.invokespecial 76, 3) := by decide +kernel
theorem dX5_addCoupon_101 : decode cX5_addCoupon 101 = .ok (.athrow, 1) := by decide +kernel
theorem dX5_addCoupon_102 : decode cX5_addCoupon 102 = .ok (.aload_n 0, 1) := by decide +kernel
theorem dX5_addCoupon_103 : decode cX5_addCoupon 103 = .ok (.getfield 46, 3) := by decide +kernel
theorem dX5_addCoupon_106 : decode cX5_addCoupon 106 = .ok (.istore 6, 2) := by decide +kernel
theorem dX5_addCoupon_108 : decode cX5_addCoupon 108 = .ok (.aload_n 0, 1) := by decide +kernel
theorem dX5_addCoupon_109 : decode cX5_addCoupon 109 = .ok (.getfield 18, 3) := by decide +kernel
theorem dX5_addCoupon_112 : decode cX5_addCoupon 112 = .ok (.iload 6, 2) := by decide +kernel
theorem dX5_addCoupon_114 : decode cX5_addCoupon 114 = .ok (.aaload, 1) := by decide +kernel
theorem dX5_addCoupon_115 : decode cX5_addCoupon 115 = .ok (.iload_n 1, 1) := by decide +kernel
theorem dX5_addCoupon_116 : decode cX5_addCoupon 116 = .ok (.iload_n 2, 1) := by decide +kernel
theorem dX5_addCoupon_117 : decode cX5_addCoupon 117 = .ok (.iload_n 3, 1) := by decide +kernel
theorem dX5_addCoupon_118 : decode cX5_addCoupon 118 = .ok (.iload 4, 2) := by decide +kernel
theorem dX5_addCoupon_120 : decode cX5_addCoupon 120 = .ok (.iload 5, 2) := by decide +kernel
theorem dX5_addCoupon_122 : decode cX5_addCoupon 122 = .ok (.invokevirtual 114, 3) := by decide +kernel
theorem dX5_addCoupon_125 : decode cX5_addCoupon 125 = .ok (.aload_n 0, 1) := by decide +kernel
theorem dX5_addCoupon_126 : decode cX5_addCoupon 126 = .ok (.dup, 1) := by decide +kernel
theorem dX5_addCoupon_127 : decode cX5_addCoupon 127 = .ok (.getfield 46, 3) := by decide +kernel
theorem dX5_addCoupon_130 : decode cX5_addCoupon 130 = .ok (.iconst 1, 1) := by decide +kernel
theorem dX5_addCoupon_131 : decode cX5_addCoupon 131 = .ok (.iadd, 1) := by decide +kernel
theorem dX5_addCoupon_132 : decode cX5_addCoupon 132 = .ok (.putfield 46, 3) := by decide +kernel
theorem dX5_addCoupon_135 : decode cX5_addCoupon 135 = .ok (.iload 6, 2) := by decide +kernel
theorem dX5_addCoupon_137 : decode cX5_addCoupon 137 = .ok (.ireturn, 1) := by decide +kernel
theorem dX5_isAllowed_0 : decode cX5_isAllowed 0 = .ok (.aload_n 0, 1) := by decide +kernel
theorem dX5_isAllowed_1 : decode cX5_isAllowed 1 = .ok (.iload_n 1, 1) := by decide +kernel
theorem dX5_isAllowed_2 : decode cX5_isAllowed 2 = .ok (.invokevirtual 141, 3) := by decide +kernel
theorem dX5_isAllowed_5 : decode cX5_isAllowed 5 = .ok (.aload_n 0, 1) := by decide +kernel
theorem dX5_isAllowed_6 : decode cX5_isAllowed 6 = .ok (.iload_n 1, 1) := by decide +kernel
theorem dX5_isAllowed_7 : decode cX5_isAllowed 7 = .ok (.invokevirtual 144, 3) := by decide +kernel
theorem dX5_isAllowed_10 : decode cX5_isAllowed 10 = .ok (.ireturn, 1) := by decide +kernel
theorem dX5_goods_0 : decode cX5_goods 0 = .ok (.aload_n 0, 1) := by decide +kernel
theorem dX5_goods_1 : decode cX5_goods 1 = .ok (.iload_n 1, 1) := by decide +kernel
theorem dX5_goods_2 : decode cX5_goods 2 = .ok (.invokevirtual 141, 3) := by decide +kernel
theorem dX5_goods_5 : decode cX5_goods 5 = .ok (.aload_n 0, 1) := by decide +kernel
theorem dX5_goods_6 : decode cX5_goods 6 = .ok (.iload_n 1, 1) := by decide +kernel
theorem dX5_goods_7 : decode cX5_goods 7 = .ok (.invokevirtual 148, 3) := by decide +kernel
theorem dX5_goods_10 : decode cX5_goods 10 = .ok (.aload_n 0, 1) := by decide +kernel
theorem dX5_goods_11 : decode cX5_goods 11 = .ok (.aload_n 0, 1) := by decide +kernel
theorem dX5_goods_12 : decode cX5_goods 12 = .ok (.getfield 12, 3) := by decide +kernel
theorem dX5_goods_15 : decode cX5_goods 15 = .ok (.iload_n 1, 1) := by decide +kernel
theorem dX5_goods_16 : decode cX5_goods 16 = .ok (.invokevirtual 151, 3) := by decide +kernel
theorem dX5_goods_19 : decode cX5_goods 19 = .ok (.ireturn, 1) := by decide +kernel
theorem dX5_total_0 : decode cX5_total 0 = .ok (.aload_n 0, 1) := by decide +kernel
theorem dX5_total_1 : decode cX5_total 1 = .ok (.iload_n 1, 1) := by decide +kernel
theorem dX5_total_2 : decode cX5_total 2 = .ok (.invokevirtual 141, 3) := by decide +kernel
theorem dX5_total_5 : decode cX5_total 5 = .ok (.aload_n 0, 1) := by decide +kernel
theorem dX5_total_6 : decode cX5_total 6 = .ok (.iload_n 1, 1) := by decide +kernel
theorem dX5_total_7 : decode cX5_total 7 = .ok (.invokevirtual 148, 3) := by decide +kernel
theorem dX5_total_10 : decode cX5_total 10 = .ok (.aload_n 0, 1) := by decide +kernel
theorem dX5_total_11 : decode cX5_total 11 = .ok (.aload_n 0, 1) := by decide +kernel
theorem dX5_total_12 : decode cX5_total 12 = .ok (.getfield 12, 3) := by decide +kernel
theorem dX5_total_15 : decode cX5_total 15 = .ok (.iload_n 1, 1) := by decide +kernel
theorem dX5_total_16 : decode cX5_total 16 = .ok (.invokevirtual 151, 3) := by decide +kernel
theorem dX5_total_19 : decode cX5_total 19 = .ok (.istore_n 2, 1) := by decide +kernel
theorem dX5_total_20 : decode cX5_total 20 = .ok (.iload_n 2, 1) := by decide +kernel
theorem dX5_total_21 : decode cX5_total 21 = .ok (.aload_n 0, 1) := by decide +kernel
theorem dX5_total_22 : decode cX5_total 22 = .ok (.iload_n 1, 1) := by decide +kernel
theorem dX5_total_23 : decode cX5_total 23 = .ok (.iload_n 2, 1) := by decide +kernel
theorem dX5_total_24 : decode cX5_total 24 = .ok (.invokevirtual 155, 3) := by decide +kernel
theorem dX5_total_27 : decode cX5_total 27 = .ok (.iadd, 1) := by decide +kernel
theorem dX5_total_28 : decode cX5_total 28 = .ok (.ireturn, 1) := by decide +kernel
theorem dX5_best_0 : decode cX5_best 0 = .ok (.aload_n 0, 1) := by decide +kernel
theorem dX5_best_1 : decode cX5_best 1 = .ok (.iconst 0, 1) := by decide +kernel
theorem dX5_best_2 : decode cX5_best 2 = .ok (.invokevirtual 165, 3) := by decide +kernel
theorem dX5_best_5 : decode cX5_best 5 = .ok (.aload_n 0, 1) := by decide +kernel
theorem dX5_best_6 : decode cX5_best 6 = .ok (.getfield 38, 3) := by decide +kernel
theorem dX5_best_9 : decode cX5_best 9 = .ok (.getfield 168, 3) := by decide +kernel
theorem dX5_best_12 : decode cX5_best 12 = .ok (.ireturn, 1) := by decide +kernel
theorem dX5_buy_0 : decode cX5_buy 0 = .ok (.aload_n 0, 1) := by decide +kernel
theorem dX5_buy_1 : decode cX5_buy 1 = .ok (.iload_n 1, 1) := by decide +kernel
theorem dX5_buy_2 : decode cX5_buy 2 = .ok (.invokevirtual 141, 3) := by decide +kernel
theorem dX5_buy_5 : decode cX5_buy 5 = .ok (.aload_n 0, 1) := by decide +kernel
theorem dX5_buy_6 : decode cX5_buy 6 = .ok (.iload_n 1, 1) := by decide +kernel
theorem dX5_buy_7 : decode cX5_buy 7 = .ok (.invokevirtual 148, 3) := by decide +kernel
theorem dX5_buy_10 : decode cX5_buy 10 = .ok (.aload_n 0, 1) := by decide +kernel
theorem dX5_buy_11 : decode cX5_buy 11 = .ok (.getfield 12, 3) := by decide +kernel
theorem dX5_buy_14 : decode cX5_buy 14 = .ok (.invokevirtual 177, 3) := by decide +kernel
theorem dX5_buy_17 : decode cX5_buy 17 = .ok (.ifCond .ne 13, 3) := by decide +kernel
theorem dX5_buy_20 : decode cX5_buy 20 = .ok (.new 72, 3) := by decide +kernel
theorem dX5_buy_23 : decode cX5_buy 23 = .ok (.dup, 1) := by decide +kernel
theorem dX5_buy_24 : decode cX5_buy 24 = .ok (.ldc 181, 2) := by decide +kernel
theorem dX5_buy_26 : decode cX5_buy 26 = .ok (.invokespecial 76, 3) := by decide +kernel
theorem dX5_buy_29 : decode cX5_buy 29 = .ok (.athrow, 1) := by decide +kernel
theorem dX5_buy_30 : decode cX5_buy 30 = .ok (.aload_n 0, 1) := by decide +kernel
theorem dX5_buy_31 : decode cX5_buy 31 = .ok (.getfield 49, 3) := by decide +kernel
theorem dX5_buy_34 : decode cX5_buy 34 = .ok (.bipush 12, 2) := by decide +kernel
theorem dX5_buy_36 : decode cX5_buy 36 = .ok (.if_icmp .lt 13, 3) := by decide +kernel
theorem dX5_buy_39 : decode cX5_buy 39 = .ok (.new 72, 3) := by decide +kernel
theorem dX5_buy_42 : decode cX5_buy 42 = .ok (.dup, 1) := by decide +kernel
theorem dX5_buy_43 : decode cX5_buy 43 = .ok (.ldc 183, 2) := by decide +kernel
theorem dX5_buy_45 : decode cX5_buy 45 = .ok (.invokespecial 76, 3) := by decide +kernel
theorem dX5_buy_48 : decode cX5_buy 48 = .ok (.athrow, 1) := by decide +kernel
theorem dX5_buy_49 : decode cX5_buy 49 = .ok (.aload_n 0, 1) := by decide +kernel
theorem dX5_buy_50 : decode cX5_buy 50 = .ok (.getfield 49, 3) := by decide +kernel
theorem dX5_buy_53 : decode cX5_buy 53 = .ok (.istore_n 2, 1) := by decide +kernel
theorem dX5_buy_54 : decode cX5_buy 54 = .ok (.aload_n 0, 1) := by decide +kernel
theorem dX5_buy_55 : decode cX5_buy 55 = .ok (.aload_n 0, 1) := by decide +kernel
theorem dX5_buy_56 : decode cX5_buy 56 = .ok (.getfield 12, 3) := by decide +kernel
theorem dX5_buy_59 : decode cX5_buy 59 = .ok (.iload_n 1, 1) := by decide +kernel
theorem dX5_buy_60 : decode cX5_buy 60 = .ok (.invokevirtual 151, 3) := by decide +kernel
theorem dX5_buy_63 : decode cX5_buy 63 = .ok (.istore_n 3, 1) := by decide +kernel
theorem dX5_buy_64 : decode cX5_buy 64 = .ok (.aload_n 0, 1) := by decide +kernel
theorem dX5_buy_65 : decode cX5_buy 65 = .ok (.getfield 24, 3) := by decide +kernel
theorem dX5_buy_68 : decode cX5_buy 68 = .ok (.iload_n 2, 1) := by decide +kernel
theorem dX5_buy_69 : decode cX5_buy 69 = .ok (.aaload, 1) := by decide +kernel
theorem dX5_buy_70 : decode cX5_buy 70 = .ok (.aload_n 0, 1) := by decide +kernel
theorem dX5_buy_71 : decode cX5_buy 71 = .ok (.getfield 12, 3) := by decide +kernel
theorem dX5_buy_74 : decode cX5_buy 74 = .ok (.iload_n 1, 1) := by decide +kernel
theorem dX5_buy_75 : decode cX5_buy 75 = .ok (.aload_n 0, 1) := by decide +kernel
theorem dX5_buy_76 : decode cX5_buy 76 = .ok (.iload_n 1, 1) := by decide +kernel
theorem dX5_buy_77 : decode cX5_buy 77 = .ok (.iload_n 3, 1) := by decide +kernel
theorem dX5_buy_78 : decode cX5_buy 78 = .ok (.invokevirtual 155, 3) := by decide +kernel
theorem dX5_buy_81 : decode cX5_buy 81 = .ok (.iload_n 3, 1) := by decide +kernel
theorem dX5_buy_82 : decode cX5_buy 82 = .ok (.invokevirtual 185, 3) := by decide +kernel
theorem dX5_buy_85 : decode cX5_buy 85 = .ok (.aload_n 0, 1) := by decide +kernel
theorem dX5_buy_86 : decode cX5_buy 86 = .ok (.dup, 1) := by decide +kernel
theorem dX5_buy_87 : decode cX5_buy 87 = .ok (.getfield 49, 3) := by decide +kernel
theorem dX5_buy_90 : decode cX5_buy 90 = .ok (.iconst 1, 1) := by decide +kernel
theorem dX5_buy_91 : decode cX5_buy 91 = .ok (.iadd, 1) := by decide +kernel
theorem dX5_buy_92 : decode cX5_buy 92 = .ok (.putfield 49, 3) := by decide +kernel
theorem dX5_buy_95 : decode cX5_buy 95 = .ok (.aload_n 0, 1) := by decide +kernel
theorem dX5_buy_96 : decode cX5_buy 96 = .ok (.iload_n 1, 1) := by decide +kernel
theorem dX5_buy_97 : decode cX5_buy 97 = .ok (.invokevirtual 188, 3) := by decide +kernel
theorem dX5_buy_100 : decode cX5_buy 100 = .ok (.aload_n 0, 1) := by decide +kernel
theorem dX5_buy_101 : decode cX5_buy 101 = .ok (.getfield 12, 3) := by decide +kernel
theorem dX5_buy_104 : decode cX5_buy 104 = .ok (.invokevirtual 191, 3) := by decide +kernel
theorem dX5_buy_107 : decode cX5_buy 107 = .ok (.iload_n 2, 1) := by decide +kernel
theorem dX5_buy_108 : decode cX5_buy 108 = .ok (.ireturn, 1) := by decide +kernel
theorem dX5_giveBack_0 : decode cX5_giveBack 0 = .ok (.aload_n 0, 1) := by decide +kernel
theorem dX5_giveBack_1 : decode cX5_giveBack 1 = .ok (.iload_n 1, 1) := by decide +kernel
theorem dX5_giveBack_2 : decode cX5_giveBack 2 = .ok (.invokevirtual 194, 3) := by decide +kernel
theorem dX5_giveBack_5 : decode cX5_giveBack 5 = .ok (.aload_n 0, 1) := by decide +kernel
theorem dX5_giveBack_6 : decode cX5_giveBack 6 = .ok (.iload_n 2, 1) := by decide +kernel
theorem dX5_giveBack_7 : decode cX5_giveBack 7 = .ok (.invokevirtual 84, 3) := by decide +kernel
theorem dX5_giveBack_10 : decode cX5_giveBack 10 = .ok (.aload_n 0, 1) := by decide +kernel
theorem dX5_giveBack_11 : decode cX5_giveBack 11 = .ok (.getfield 24, 3) := by decide +kernel
theorem dX5_giveBack_14 : decode cX5_giveBack 14 = .ok (.iload_n 1, 1) := by decide +kernel
theorem dX5_giveBack_15 : decode cX5_giveBack 15 = .ok (.aaload, 1) := by decide +kernel
theorem dX5_giveBack_16 : decode cX5_giveBack 16 = .ok (.astore 4, 2) := by decide +kernel
theorem dX5_giveBack_18 : decode cX5_giveBack 18 = .ok (.iload_n 3, 1) := by decide +kernel
theorem dX5_giveBack_19 : decode cX5_giveBack 19 = .ok (.iconst 1, 1) := by decide +kernel
theorem dX5_giveBack_20 : decode cX5_giveBack 20 = .ok (.if_icmp .lt 17, 3) := by decide +kernel
theorem dX5_giveBack_23 : decode cX5_giveBack 23 = .ok (.iload_n 3, 1) := by decide +kernel
theorem dX5_giveBack_24 : decode cX5_giveBack 24 = .ok (.aload 4, 2) := by decide +kernel
theorem dX5_giveBack_26 : decode cX5_giveBack 26 = .ok (.getfield 197, 3) := by decide +kernel
theorem dX5_giveBack_29 : decode cX5_giveBack 29 = .ok (.getfield 89, 3) := by decide +kernel
theorem dX5_giveBack_32 : decode cX5_giveBack 32 = .ok (.iload_n 2, 1) := by decide +kernel
theorem dX5_giveBack_33 : decode cX5_giveBack 33 = .ok (.iaload, 1) := by decide +kernel
theorem dX5_giveBack_34 : decode cX5_giveBack 34 = .ok (.if_icmp .le 13, 3) := by decide +kernel
theorem dX5_giveBack_37 : decode cX5_giveBack 37 = .ok (.new 65, 3) := by decide +kernel
theorem dX5_giveBack_40 : decode cX5_giveBack 40 = .ok (.dup, 1) := by decide +kernel
theorem dX5_giveBack_41 : decode cX5_giveBack 41 = .ok (.ldc 200, 2) := by decide +kernel
theorem dX5_giveBack_43 : decode cX5_giveBack 43 = .ok (.invokespecial 69, 3) := by decide +kernel
theorem dX5_giveBack_46 : decode cX5_giveBack 46 = .ok (.athrow, 1) := by decide +kernel
theorem dX5_giveBack_47 : decode cX5_giveBack 47 = .ok (.aload 4, 2) := by decide +kernel
theorem dX5_giveBack_49 : decode cX5_giveBack 49 = .ok (.getfield 197, 3) := by decide +kernel
theorem dX5_giveBack_52 : decode cX5_giveBack 52 = .ok (.getfield 89, 3) := by decide +kernel
theorem dX5_giveBack_55 : decode cX5_giveBack 55 = .ok (.iload_n 2, 1) := by decide +kernel
theorem dX5_giveBack_56 : decode cX5_giveBack 56 = .ok (.dup2, 1) := by decide +kernel
theorem dX5_giveBack_57 : decode cX5_giveBack 57 = .ok (.iaload, 1) := by decide +kernel
theorem dX5_giveBack_58 : decode cX5_giveBack 58 = .ok (.iload_n 3, 1) := by decide +kernel
theorem dX5_giveBack_59 : decode cX5_giveBack 59 = .ok (.isub, 1) := by decide +kernel
theorem dX5_giveBack_60 : decode cX5_giveBack 60 = .ok (.iastore, 1) := by decide +kernel
theorem dX5_giveBack_61 : decode cX5_giveBack 61 = .ok (.aload 4, 2) := by decide +kernel
theorem dX5_giveBack_63 : decode cX5_giveBack 63 = .ok (.aload_n 0, 1) := by decide +kernel
theorem dX5_giveBack_64 : decode cX5_giveBack 64 = .ok (.aload 4, 2) := by decide +kernel
theorem dX5_giveBack_66 : decode cX5_giveBack 66 = .ok (.invokevirtual 202, 3) := by decide +kernel
theorem dX5_giveBack_69 : decode cX5_giveBack 69 = .ok (.putfield 206, 3) := by decide +kernel
theorem dX5_giveBack_72 : decode cX5_giveBack 72 = .ok (.aload_n 0, 1) := by decide +kernel
theorem dX5_giveBack_73 : decode cX5_giveBack 73 = .ok (.aload 4, 2) := by decide +kernel
theorem dX5_giveBack_75 : decode cX5_giveBack 75 = .ok (.getfield 197, 3) := by decide +kernel
theorem dX5_giveBack_78 : decode cX5_giveBack 78 = .ok (.aload 4, 2) := by decide +kernel
theorem dX5_giveBack_80 : decode cX5_giveBack 80 = .ok (.getfield 206, 3) := by decide +kernel
theorem dX5_giveBack_83 : decode cX5_giveBack 83 = .ok (.invokevirtual 151, 3) := by decide +kernel
theorem dX5_giveBack_86 : decode cX5_giveBack 86 = .ok (.istore 5, 2) := by decide +kernel
theorem dX5_giveBack_88 : decode cX5_giveBack 88 = .ok (.iload 5, 2) := by decide +kernel
theorem dX5_giveBack_90 : decode cX5_giveBack 90 = .ok (.aload 4, 2) := by decide +kernel
theorem dX5_giveBack_92 : decode cX5_giveBack 92 = .ok (.getfield 209, 3) := by decide +kernel
theorem dX5_giveBack_95 : decode cX5_giveBack 95 = .ok (.if_icmp .lt 5, 3) := by decide +kernel
theorem dX5_giveBack_98 : decode cX5_giveBack 98 = .ok (.iconst 0, 1) := by decide +kernel
theorem dX5_giveBack_99 : decode cX5_giveBack 99 = .ok (.ireturn, 1) := by decide +kernel
theorem dX5_giveBack_100 : decode cX5_giveBack 100 = .ok (.aload 4, 2) := by decide +kernel
theorem dX5_giveBack_102 : decode cX5_giveBack 102 = .ok (.getfield 209, 3) := by decide +kernel
theorem dX5_giveBack_105 : decode cX5_giveBack 105 = .ok (.iload 5, 2) := by decide +kernel
theorem dX5_giveBack_107 : decode cX5_giveBack 107 = .ok (.isub, 1) := by decide +kernel
theorem dX5_giveBack_108 : decode cX5_giveBack 108 = .ok (.istore 6, 2) := by decide +kernel
theorem dX5_giveBack_110 : decode cX5_giveBack 110 = .ok (.aload 4, 2) := by decide +kernel
theorem dX5_giveBack_112 : decode cX5_giveBack 112 = .ok (.iload 5, 2) := by decide +kernel
theorem dX5_giveBack_114 : decode cX5_giveBack 114 = .ok (.putfield 209, 3) := by decide +kernel
theorem dX5_giveBack_117 : decode cX5_giveBack 117 = .ok (.iload 6, 2) := by decide +kernel
theorem dX5_giveBack_119 : decode cX5_giveBack 119 = .ok (.ireturn, 1) := by decide +kernel
theorem dX5_order_0 : decode cX5_order 0 = .ok (.aload_n 0, 1) := by decide +kernel
theorem dX5_order_1 : decode cX5_order 1 = .ok (.iload_n 1, 1) := by decide +kernel
theorem dX5_order_2 : decode cX5_order 2 = .ok (.invokevirtual 194, 3) := by decide +kernel
theorem dX5_order_5 : decode cX5_order 5 = .ok (.iload_n 2, 1) := by decide +kernel
theorem dX5_order_6 : decode cX5_order 6 = .ok (.ifCond .lt 8, 3) := by decide +kernel
theorem dX5_order_9 : decode cX5_order 9 = .ok (.iload_n 2, 1) := by decide +kernel
theorem dX5_order_10 : decode cX5_order 10 = .ok (.iconst 5, 1) := by decide +kernel
theorem dX5_order_11 : decode cX5_order 11 = .ok (.if_icmp .lt 13, 3) := by decide +kernel
theorem dX5_order_14 : decode cX5_order 14 = .ok (.new 212, 3) := by decide +kernel
theorem dX5_order_17 : decode cX5_order 17 = .ok (.dup, 1) := by decide +kernel
theorem dX5_order_18 : decode cX5_order 18 = .ok (.ldc 214, 2) := by decide +kernel
theorem dX5_order_20 : decode cX5_order 20 = .ok (.invokespecial 216, 3) := by decide +kernel
theorem dX5_order_23 : decode cX5_order 23 = .ok (.athrow, 1) := by decide +kernel
theorem dX5_order_24 : decode cX5_order 24 = .ok (.aload_n 0, 1) := by decide +kernel
theorem dX5_order_25 : decode cX5_order 25 = .ok (.getfield 24, 3) := by decide +kernel
theorem dX5_order_28 : decode cX5_order 28 = .ok (.iload_n 1, 1) := by decide +kernel
theorem dX5_order_29 : decode cX5_order 29 = .ok (.aaload, 1) := by decide +kernel
theorem dX5_order_30 : decode cX5_order 30 = .ok (.iload_n 2, 1) := by decide +kernel
theorem dX5_order_31 : decode cX5_order 31 = .ok (.invokevirtual 217, 3) := by decide +kernel
theorem dX5_order_34 : decode cX5_order 34 = .ok (.ireturn, 1) := by decide +kernel
theorem dX5_pieces_0 : decode cX5_pieces 0 = .ok (.aload_n 0, 1) := by decide +kernel
theorem dX5_pieces_1 : decode cX5_pieces 1 = .ok (.iload_n 1, 1) := by decide +kernel
theorem dX5_pieces_2 : decode cX5_pieces 2 = .ok (.invokevirtual 194, 3) := by decide +kernel
theorem dX5_pieces_5 : decode cX5_pieces 5 = .ok (.aload_n 0, 1) := by decide +kernel
theorem dX5_pieces_6 : decode cX5_pieces 6 = .ok (.iload_n 2, 1) := by decide +kernel
theorem dX5_pieces_7 : decode cX5_pieces 7 = .ok (.invokevirtual 84, 3) := by decide +kernel
theorem dX5_pieces_10 : decode cX5_pieces 10 = .ok (.aload_n 0, 1) := by decide +kernel
theorem dX5_pieces_11 : decode cX5_pieces 11 = .ok (.getfield 24, 3) := by decide +kernel
theorem dX5_pieces_14 : decode cX5_pieces 14 = .ok (.iload_n 1, 1) := by decide +kernel
theorem dX5_pieces_15 : decode cX5_pieces 15 = .ok (.aaload, 1) := by decide +kernel
theorem dX5_pieces_16 : decode cX5_pieces 16 = .ok (.getfield 197, 3) := by decide +kernel
theorem dX5_pieces_19 : decode cX5_pieces 19 = .ok (.getfield 89, 3) := by decide +kernel
theorem dX5_pieces_22 : decode cX5_pieces 22 = .ok (.iload_n 2, 1) := by decide +kernel
theorem dX5_pieces_23 : decode cX5_pieces 23 = .ok (.iaload, 1) := by decide +kernel
theorem dX5_pieces_24 : decode cX5_pieces 24 = .ok (.ireturn, 1) := by decide +kernel
theorem dX5_needArticle_0 : decode cX5_needArticle 0 = .ok (.iload_n 1, 1) := by decide +kernel
theorem dX5_needArticle_1 : decode cX5_needArticle 1 = .ok (.ifCond .lt 11, 3) := by decide +kernel
theorem dX5_needArticle_4 : decode cX5_needArticle 4 = .ok (.iload_n 1, 1) := by decide +kernel
theorem dX5_needArticle_5 : decode cX5_needArticle 5 = .ok (.aload_n 0, 1) := by decide +kernel
theorem dX5_needArticle_6 : decode cX5_needArticle 6 = .ok (.getfield 42, 3) := by decide +kernel
theorem dX5_needArticle_9 : decode cX5_needArticle 9 = .ok (.if_icmp .lt 13, 3) := by decide +kernel
theorem dX5_needArticle_12 : decode cX5_needArticle 12 = .ok (.new 212, 3) := by decide +kernel
theorem dX5_needArticle_15 : decode cX5_needArticle 15 = .ok (.dup, 1) := by decide +kernel
theorem dX5_needArticle_16 : decode cX5_needArticle 16 = .ok (.ldc 236, 2) := by decide +kernel
theorem dX5_needArticle_18 : decode cX5_needArticle 18 = .ok (.invokespecial 216, 3) := by decide +kernel
theorem dX5_needArticle_21 : decode cX5_needArticle 21 = .ok (.athrow, 1) := by decide +kernel
theorem dX5_needArticle_22 : decode cX5_needArticle 22 = .ok (.return_, 1) := by decide +kernel
theorem dX5_needOrder_0 : decode cX5_needOrder 0 = .ok (.iload_n 1, 1) := by decide +kernel
theorem dX5_needOrder_1 : decode cX5_needOrder 1 = .ok (.ifCond .lt 11, 3) := by decide +kernel
theorem dX5_needOrder_4 : decode cX5_needOrder 4 = .ok (.iload_n 1, 1) := by decide +kernel
theorem dX5_needOrder_5 : decode cX5_needOrder 5 = .ok (.aload_n 0, 1) := by decide +kernel
theorem dX5_needOrder_6 : decode cX5_needOrder 6 = .ok (.getfield 49, 3) := by decide +kernel
theorem dX5_needOrder_9 : decode cX5_needOrder 9 = .ok (.if_icmp .lt 13, 3) := by decide +kernel
theorem dX5_needOrder_12 : decode cX5_needOrder 12 = .ok (.new 212, 3) := by decide +kernel
theorem dX5_needOrder_15 : decode cX5_needOrder 15 = .ok (.dup, 1) := by decide +kernel
theorem dX5_needOrder_16 : decode cX5_needOrder 16 = .ok (.ldc 240, 2) := by decide +kernel
theorem dX5_needOrder_18 : decode cX5_needOrder 18 = .ok (.invokespecial 216, 3) := by decide +kernel
theorem dX5_needOrder_21 : decode cX5_needOrder 21 = .ok (.athrow, 1) := by decide +kernel
theorem dX5_needOrder_22 : decode cX5_needOrder 22 = .ok (.return_, 1) := by decide +kernel
theorem dX5_needPrice_0 : decode cX5_needPrice 0 = .ok (.iload_n 0, 1) := by decide +kernel
theorem dX5_needPrice_1 : decode cX5_needPrice 1 = .ok (.iconst 1, 1) := by decide +kernel
theorem dX5_needPrice_2 : decode cX5_needPrice 2 = .ok (.if_icmp .lt 10, 3) := by decide +kernel
theorem dX5_needPrice_5 : decode cX5_needPrice 5 = .ok (.iload_n 0, 1) := by decide +kernel
theorem dX5_needPrice_6 : decode cX5_needPrice 6 = .ok (.sipush 10000, 3) := by decide +kernel
theorem dX5_needPrice_9 : decode cX5_needPrice 9 = .ok (.if_icmp .le 13, 3) := by decide +kernel
theorem dX5_needPrice_12 : decode cX5_needPrice 12 = .ok (.new 65, 3) := by decide +kernel
theorem dX5_needPrice_15 : decode cX5_needPrice 15 = .ok (.dup, 1) := by decide +kernel
theorem dX5_needPrice_16 : decode cX5_needPrice 16 = .ok (.ldc 242, 2) := by decide +kernel
theorem dX5_needPrice_18 : decode cX5_needPrice 18 = .ok (.invokespecial 69, 3) := by decide +kernel
theorem dX5_needPrice_21 : decode cX5_needPrice 21 = .ok (.athrow, 1) := by decide +kernel
theorem dX5_needPrice_22 : decode cX5_needPrice 22 = .ok (.return_, 1) := by decide +kernel
theorem dX5_needCoupons_0 : decode cX5_needCoupons 0 = .ok (.iload_n 1, 1) := by decide +kernel
theorem dX5_needCoupons_1 : decode cX5_needCoupons 1 = .ok (.ifCond .lt 13, 3) := by decide +kernel
theorem dX5_needCoupons_4 : decode cX5_needCoupons 4 = .ok (.iload_n 1, 1) := by decide +kernel
theorem dX5_needCoupons_5 : decode cX5_needCoupons 5 = .ok (.iconst 1, 1) := by decide +kernel
theorem dX5_needCoupons_6 : decode cX5_needCoupons 6 = .ok (.aload_n 0, 1) := by decide +kernel
theorem dX5_needCoupons_7 : decode cX5_needCoupons 7 = .ok (.getfield 46, 3) := by decide +kernel
theorem dX5_needCoupons_10 : decode cX5_needCoupons 10 = .ok (.ishl, 1) := by decide +kernel
theorem dX5_needCoupons_11 : decode cX5_needCoupons 11 = .ok (.if_icmp .lt 13, 3) := by decide +kernel
theorem dX5_needCoupons_14 : decode cX5_needCoupons 14 = .ok (.new 65, 3) := by decide +kernel
theorem dX5_needCoupons_17 : decode cX5_needCoupons 17 = .ok (.dup, 1) := by decide +kernel
theorem dX5_needCoupons_18 : decode cX5_needCoupons 18 = .ok (.ldc 244, 2) := by decide +kernel
theorem dX5_needCoupons_20 : decode cX5_needCoupons 20 = .ok (.invokespecial 69, 3) := by decide +kernel
theorem dX5_needCoupons_23 : decode cX5_needCoupons 23 = .ok (.athrow, 1) := by decide +kernel
theorem dX5_needCoupons_24 : decode cX5_needCoupons 24 = .ok (.return_, 1) := by decide +kernel
theorem dX5_needAllowed_0 : decode cX5_needAllowed 0 = .ok (.aload_n 0, 1) := by decide +kernel
theorem dX5_needAllowed_1 : decode cX5_needAllowed 1 = .ok (.iload_n 1, 1) := by decide +kernel
theorem dX5_needAllowed_2 : decode cX5_needAllowed 2 = .ok (.invokevirtual 144, 3) := by decide +kernel
theorem dX5_needAllowed_5 : decode cX5_needAllowed 5 = .ok (.ifCond .ne 13, 3) := by decide +kernel
theorem dX5_needAllowed_8 : decode cX5_needAllowed 8 = .ok (.new 72, 3) := by decide +kernel
theorem dX5_needAllowed_11 : decode cX5_needAllowed 11 = .ok (.dup, 1) := by decide +kernel
theorem dX5_needAllowed_12 : decode cX5_needAllowed 12 = .ok (.ldc 246, 2) := by decide +kernel
theorem dX5_needAllowed_14 : decode cX5_needAllowed 14 = .ok (.invokespecial 76, 3) := by decide +kernel
theorem dX5_needAllowed_17 : decode cX5_needAllowed 17 = .ok (.athrow, 1) := by decide +kernel
theorem dX5_needAllowed_18 : decode cX5_needAllowed 18 = .ok (.return_, 1) := by decide +kernel
theorem dX5_isValueOfKind_0 : decode cX5_isValueOfKind 0 = .ok (.iload_n 0, 1) := by decide +kernel
theorem dX5_isValueOfKind_1 : decode cX5_isValueOfKind 1 = .ok (.tableswitch 92 0 3 #[31, 48, 65, 82], 31) := by decide +kernel
theorem dX5_isValueOfKind_32 : decode cX5_isValueOfKind 32 = .ok (.iload_n 1, 1) := by decide +kernel
theorem dX5_isValueOfKind_33 : decode cX5_isValueOfKind 33 = .ok (.iconst 1, 1) := by decide +kernel
theorem dX5_isValueOfKind_34 : decode cX5_isValueOfKind 34 = .ok (.if_icmp .lt 13, 3) := by decide +kernel
theorem dX5_isValueOfKind_37 : decode cX5_isValueOfKind 37 = .ok (.iload_n 1, 1) := by decide +kernel
theorem dX5_isValueOfKind_38 : decode cX5_isValueOfKind 38 = .ok (.bipush 100, 2) := by decide +kernel
theorem dX5_isValueOfKind_40 : decode cX5_isValueOfKind 40 = .ok (.if_icmp .gt 7, 3) := by decide +kernel
theorem dX5_isValueOfKind_43 : decode cX5_isValueOfKind 43 = .ok (.iconst 1, 1) := by decide +kernel
theorem dX5_isValueOfKind_44 : decode cX5_isValueOfKind 44 = .ok (.goto 4, 3) := by decide +kernel
theorem dX5_isValueOfKind_47 : decode cX5_isValueOfKind 47 = .ok (.iconst 0, 1) := by decide +kernel
theorem dX5_isValueOfKind_48 : decode cX5_isValueOfKind 48 = .ok (.ireturn, 1) := by decide +kernel
theorem dX5_isValueOfKind_49 : decode cX5_isValueOfKind 49 = .ok (.iload_n 1, 1) := by decide +kernel
theorem dX5_isValueOfKind_50 : decode cX5_isValueOfKind 50 = .ok (.iconst 1, 1) := by decide +kernel
theorem dX5_isValueOfKind_51 : decode cX5_isValueOfKind 51 = .ok (.if_icmp .lt 13, 3) := by decide +kernel
theorem dX5_isValueOfKind_54 : decode cX5_isValueOfKind 54 = .ok (.iload_n 1, 1) := by decide +kernel
theorem dX5_isValueOfKind_55 : decode cX5_isValueOfKind 55 = .ok (.ldc 248, 2) := by decide +kernel
theorem dX5_isValueOfKind_57 : decode cX5_isValueOfKind 57 = .ok (.if_icmp .gt 7, 3) := by decide +kernel
theorem dX5_isValueOfKind_60 : decode cX5_isValueOfKind 60 = .ok (.iconst 1, 1) := by decide +kernel
theorem dX5_isValueOfKind_61 : decode cX5_isValueOfKind 61 = .ok (.goto 4, 3) := by decide +kernel
theorem dX5_isValueOfKind_64 : decode cX5_isValueOfKind 64 = .ok (.iconst 0, 1) := by decide +kernel
theorem dX5_isValueOfKind_65 : decode cX5_isValueOfKind 65 = .ok (.ireturn, 1) := by decide +kernel
theorem dX5_isValueOfKind_66 : decode cX5_isValueOfKind 66 = .ok (.iload_n 1, 1) := by decide +kernel
theorem dX5_isValueOfKind_67 : decode cX5_isValueOfKind 67 = .ok (.iconst 2, 1) := by decide +kernel
theorem dX5_isValueOfKind_68 : decode cX5_isValueOfKind 68 = .ok (.if_icmp .lt 13, 3) := by decide +kernel
theorem dX5_isValueOfKind_71 : decode cX5_isValueOfKind 71 = .ok (.iload_n 1, 1) := by decide +kernel
theorem dX5_isValueOfKind_72 : decode cX5_isValueOfKind 72 = .ok (.bipush 9, 2) := by decide +kernel
theorem dX5_isValueOfKind_74 : decode cX5_isValueOfKind 74 = .ok (.if_icmp .gt 7, 3) := by decide +kernel
theorem dX5_isValueOfKind_77 : decode cX5_isValueOfKind 77 = .ok (.iconst 1, 1) := by decide +kernel
theorem dX5_isValueOfKind_78 : decode cX5_isValueOfKind 78 = .ok (.goto 4, 3) := by decide +kernel
theorem dX5_isValueOfKind_81 : decode cX5_isValueOfKind 81 = .ok (.iconst 0, 1) := by decide +kernel
theorem dX5_isValueOfKind_82 : decode cX5_isValueOfKind 82 = .ok (.ireturn, 1) := by decide +kernel
theorem dX5_isValueOfKind_83 : decode cX5_isValueOfKind 83 = .ok (.iload_n 1, 1) := by decide +kernel
theorem dX5_isValueOfKind_84 : decode cX5_isValueOfKind 84 = .ok (.ifCond .ne 7, 3) := by decide +kernel
theorem dX5_isValueOfKind_87 : decode cX5_isValueOfKind 87 = .ok (.iconst 1, 1) := by decide +kernel
theorem dX5_isValueOfKind_88 : decode cX5_isValueOfKind 88 = .ok (.goto 4, 3) := by decide +kernel
theorem dX5_isValueOfKind_91 : decode cX5_isValueOfKind 91 = .ok (.iconst 0, 1) := by decide +kernel
theorem dX5_isValueOfKind_92 : decode cX5_isValueOfKind 92 = .ok (.ireturn, 1) := by decide +kernel
theorem dX5_isValueOfKind_93 : decode cX5_isValueOfKind 93 = .ok (.iconst 0, 1) := by decide +kernel
theorem dX5_isValueOfKind_94 : decode cX5_isValueOfKind 94 = .ok (.ireturn, 1) := by decide +kernel
theorem dX5_contains_0 : decode cX5_contains 0 = .ok (.iload_n 0, 1) := by decide +kernel
theorem dX5_contains_1 : decode cX5_contains 1 = .ok (.iload_n 1, 1) := by decide +kernel
theorem dX5_contains_2 : decode cX5_contains 2 = .ok (.ishr, 1) := by decide +kernel
theorem dX5_contains_3 : decode cX5_contains 3 = .ok (.iconst 1, 1) := by decide +kernel
theorem dX5_contains_4 : decode cX5_contains 4 = .ok (.iand, 1) := by decide +kernel
theorem dX5_contains_5 : decode cX5_contains 5 = .ok (.ifCond .eq 7, 3) := by decide +kernel
theorem dX5_contains_8 : decode cX5_contains 8 = .ok (.iconst 1, 1) := by decide +kernel
theorem dX5_contains_9 : decode cX5_contains 9 = .ok (.goto 4, 3) := by decide +kernel
theorem dX5_contains_12 : decode cX5_contains 12 = .ok (.iconst 0, 1) := by decide +kernel
theorem dX5_contains_13 : decode cX5_contains 13 = .ok (.ireturn, 1) := by decide +kernel
theorem dX5_isSetAllowed_0 : decode cX5_isSetAllowed 0 = .ok (.iconst 0, 1) := by decide +kernel
theorem dX5_isSetAllowed_1 : decode cX5_isSetAllowed 1 = .ok (.istore_n 2, 1) := by decide +kernel
theorem dX5_isSetAllowed_2 : decode cX5_isSetAllowed 2 = .ok (.iload_n 2, 1) := by decide +kernel
theorem dX5_isSetAllowed_3 : decode cX5_isSetAllowed 3 = .ok (.aload_n 0, 1) := by decide +kernel
theorem dX5_isSetAllowed_4 : decode cX5_isSetAllowed 4 = .ok (.getfield 46, 3) := by decide +kernel
theorem dX5_isSetAllowed_7 : decode cX5_isSetAllowed 7 = .ok (.if_icmp .ge 52, 3) := by decide +kernel
theorem dX5_isSetAllowed_10 : decode cX5_isSetAllowed 10 = .ok (.iload_n 1, 1) := by decide +kernel
theorem dX5_isSetAllowed_11 : decode cX5_isSetAllowed 11 = .ok (.iload_n 2, 1) := by decide +kernel
theorem dX5_isSetAllowed_12 : decode cX5_isSetAllowed 12 = .ok (.invokestatic 249, 3) := by decide +kernel
theorem dX5_isSetAllowed_15 : decode cX5_isSetAllowed 15 = .ok (.ifCond .eq 38, 3) := by decide +kernel
theorem dX5_isSetAllowed_18 : decode cX5_isSetAllowed 18 = .ok (.iload_n 1, 1) := by decide +kernel
theorem dX5_isSetAllowed_19 : decode cX5_isSetAllowed 19 = .ok (.iconst 1, 1) := by decide +kernel
theorem dX5_isSetAllowed_20 : decode cX5_isSetAllowed 20 = .ok (.iload_n 2, 1) := by decide +kernel
theorem dX5_isSetAllowed_21 : decode cX5_isSetAllowed 21 = .ok (.ishl, 1) := by decide +kernel
theorem dX5_isSetAllowed_22 : decode cX5_isSetAllowed 22 = .ok (.iconst 1, 1) := by decide +kernel
theorem dX5_isSetAllowed_23 : decode cX5_isSetAllowed 23 = .ok (.isub, 1) := by decide +kernel
theorem dX5_isSetAllowed_24 : decode cX5_isSetAllowed 24 = .ok (.iand, 1) := by decide +kernel
theorem dX5_isSetAllowed_25 : decode cX5_isSetAllowed 25 = .ok (.istore_n 3, 1) := by decide +kernel
theorem dX5_isSetAllowed_26 : decode cX5_isSetAllowed 26 = .ok (.aload_n 0, 1) := by decide +kernel
theorem dX5_isSetAllowed_27 : decode cX5_isSetAllowed 27 = .ok (.getfield 18, 3) := by decide +kernel
theorem dX5_isSetAllowed_30 : decode cX5_isSetAllowed 30 = .ok (.iload_n 2, 1) := by decide +kernel
theorem dX5_isSetAllowed_31 : decode cX5_isSetAllowed 31 = .ok (.aaload, 1) := by decide +kernel
theorem dX5_isSetAllowed_32 : decode cX5_isSetAllowed 32 = .ok (.aload_n 0, 1) := by decide +kernel
theorem dX5_isSetAllowed_33 : decode cX5_isSetAllowed 33 = .ok (.getfield 12, 3) := by decide +kernel
theorem dX5_isSetAllowed_36 : decode cX5_isSetAllowed 36 = .ok (.invokevirtual 128, 3) := by decide +kernel
theorem dX5_isSetAllowed_39 : decode cX5_isSetAllowed 39 = .ok (.ifCond .eq 12, 3) := by decide +kernel
theorem dX5_isSetAllowed_42 : decode cX5_isSetAllowed 42 = .ok (.aload_n 0, 1) := by decide +kernel
theorem dX5_isSetAllowed_43 : decode cX5_isSetAllowed 43 = .ok (.iload_n 2, 1) := by decide +kernel
theorem dX5_isSetAllowed_44 : decode cX5_isSetAllowed 44 = .ok (.iload_n 3, 1) := by decide +kernel
theorem dX5_isSetAllowed_45 : decode cX5_isSetAllowed 45 = .ok (.invokevirtual 252, 3) := by decide +kernel
theorem dX5_isSetAllowed_48 : decode cX5_isSetAllowed 48 = .ok (.ifCond .ne 5, 3) := by decide +kernel
theorem dX5_isSetAllowed_51 : decode cX5_isSetAllowed 51 = .ok (.iconst 0, 1) := by decide +kernel
theorem dX5_isSetAllowed_52 : decode cX5_isSetAllowed 52 = .ok (.ireturn, 1) := by decide +kernel
theorem dX5_isSetAllowed_53 : decode cX5_isSetAllowed 53 = .ok (.iinc 2 1, 3) := by decide +kernel
theorem dX5_isSetAllowed_56 : decode cX5_isSetAllowed 56 = .ok (.goto (-54), 3) := by decide +kernel
theorem dX5_isSetAllowed_59 : decode cX5_isSetAllowed 59 = .ok (.iconst 1, 1) := by decide +kernel
theorem dX5_isSetAllowed_60 : decode cX5_isSetAllowed 60 = .ok (.ireturn, 1) := by decide +kernel
theorem dX5_isGroupFree_0 : decode cX5_isGroupFree 0 = .ok (.aload_n 0, 1) := by decide +kernel
theorem dX5_isGroupFree_1 : decode cX5_isGroupFree 1 = .ok (.getfield 18, 3) := by decide +kernel
theorem dX5_isGroupFree_4 : decode cX5_isGroupFree 4 = .ok (.iload_n 1, 1) := by decide +kernel
theorem dX5_isGroupFree_5 : decode cX5_isGroupFree 5 = .ok (.aaload, 1) := by decide +kernel
theorem dX5_isGroupFree_6 : decode cX5_isGroupFree 6 = .ok (.getfield 255, 3) := by decide +kernel
theorem dX5_isGroupFree_9 : decode cX5_isGroupFree 9 = .ok (.istore_n 3, 1) := by decide +kernel
theorem dX5_isGroupFree_10 : decode cX5_isGroupFree 10 = .ok (.iload_n 3, 1) := by decide +kernel
theorem dX5_isGroupFree_11 : decode cX5_isGroupFree 11 = .ok (.ifCond .ne 5, 3) := by decide +kernel
theorem dX5_isGroupFree_14 : decode cX5_isGroupFree 14 = .ok (.iconst 1, 1) := by decide +kernel
theorem dX5_isGroupFree_15 : decode cX5_isGroupFree 15 = .ok (.ireturn, 1) := by decide +kernel
theorem dX5_isGroupFree_16 : decode cX5_isGroupFree 16 = .ok (.iconst 0, 1) := by decide +kernel
theorem dX5_isGroupFree_17 : decode cX5_isGroupFree 17 = .ok (.istore 4, 2) := by decide +kernel
theorem dX5_isGroupFree_19 : decode cX5_isGroupFree 19 = .ok (.iload 4, 2) := by decide +kernel
theorem dX5_isGroupFree_21 : decode cX5_isGroupFree 21 = .ok (.aload_n 0, 1) := by decide +kernel
theorem dX5_isGroupFree_22 : decode cX5_isGroupFree 22 = .ok (.getfield 46, 3) := by decide +kernel
theorem dX5_isGroupFree_25 : decode cX5_isGroupFree 25 = .ok (.if_icmp .ge 34, 3) := by decide +kernel
theorem dX5_isGroupFree_28 : decode cX5_isGroupFree 28 = .ok (.iload_n 2, 1) := by decide +kernel
theorem dX5_isGroupFree_29 : decode cX5_isGroupFree 29 = .ok (.iload 4, 2) := by decide +kernel
theorem dX5_isGroupFree_31 : decode cX5_isGroupFree 31 = .ok (.invokestatic 249, 3) := by decide +kernel
theorem dX5_isGroupFree_34 : decode cX5_isGroupFree 34 = .ok (.ifCond .eq 19, 3) := by decide +kernel
theorem dX5_isGroupFree_37 : decode cX5_isGroupFree 37 = .ok (.aload_n 0, 1) := by decide +kernel
theorem dX5_isGroupFree_38 : decode cX5_isGroupFree 38 = .ok (.getfield 18, 3) := by decide +kernel
theorem dX5_isGroupFree_41 : decode cX5_isGroupFree 41 = .ok (.iload 4, 2) := by decide +kernel
theorem dX5_isGroupFree_43 : decode cX5_isGroupFree 43 = .ok (.aaload, 1) := by decide +kernel
theorem dX5_isGroupFree_44 : decode cX5_isGroupFree 44 = .ok (.getfield 255, 3) := by decide +kernel
theorem dX5_isGroupFree_47 : decode cX5_isGroupFree 47 = .ok (.iload_n 3, 1) := by decide +kernel
theorem dX5_isGroupFree_48 : decode cX5_isGroupFree 48 = .ok (.if_icmp .ne 5, 3) := by decide +kernel
theorem dX5_isGroupFree_51 : decode cX5_isGroupFree 51 = .ok (.iconst 0, 1) := by decide +kernel
theorem dX5_isGroupFree_52 : decode cX5_isGroupFree 52 = .ok (.ireturn, 1) := by decide +kernel
theorem dX5_isGroupFree_53 : decode cX5_isGroupFree 53 = .ok (.iinc 4 1, 3) := by decide +kernel
theorem dX5_isGroupFree_56 : decode cX5_isGroupFree 56 = .ok (.goto (-37), 3) := by decide +kernel
theorem dX5_isGroupFree_59 : decode cX5_isGroupFree 59 = .ok (.iconst 1, 1) := by decide +kernel
theorem dX5_isGroupFree_60 : decode cX5_isGroupFree 60 = .ok (.ireturn, 1) := by decide +kernel
theorem dX5_usableForBasket_0 : decode cX5_usableForBasket 0 = .ok (.iconst 0, 1) := by decide +kernel
theorem dX5_usableForBasket_1 : decode cX5_usableForBasket 1 = .ok (.istore_n 1, 1) := by decide +kernel
theorem dX5_usableForBasket_2 : decode cX5_usableForBasket 2 = .ok (.iconst 0, 1) := by decide +kernel
theorem dX5_usableForBasket_3 : decode cX5_usableForBasket 3 = .ok (.istore_n 2, 1) := by decide +kernel
theorem dX5_usableForBasket_4 : decode cX5_usableForBasket 4 = .ok (.iload_n 2, 1) := by decide +kernel
theorem dX5_usableForBasket_5 : decode cX5_usableForBasket 5 = .ok (.aload_n 0, 1) := by decide +kernel
theorem dX5_usableForBasket_6 : decode cX5_usableForBasket 6 = .ok (.getfield 46, 3) := by decide +kernel
theorem dX5_usableForBasket_9 : decode cX5_usableForBasket 9 = .ok (.if_icmp .ge 31, 3) := by decide +kernel
theorem dX5_usableForBasket_12 : decode cX5_usableForBasket 12 = .ok (.aload_n 0, 1) := by decide +kernel
theorem dX5_usableForBasket_13 : decode cX5_usableForBasket 13 = .ok (.getfield 18, 3) := by decide +kernel
theorem dX5_usableForBasket_16 : decode cX5_usableForBasket 16 = .ok (.iload_n 2, 1) := by decide +kernel
theorem dX5_usableForBasket_17 : decode cX5_usableForBasket 17 = .ok (.aaload, 1) := by decide +kernel
theorem dX5_usableForBasket_18 : decode cX5_usableForBasket 18 = .ok (.aload_n 0, 1) := by decide +kernel
theorem dX5_usableForBasket_19 : decode cX5_usableForBasket 19 = .ok (.getfield 12, 3) := by decide +kernel
theorem dX5_usableForBasket_22 : decode cX5_usableForBasket 22 = .ok (.invokevirtual 128, 3) := by decide +kernel
theorem dX5_usableForBasket_25 : decode cX5_usableForBasket 25 = .ok (.ifCond .eq 9, 3) := by decide +kernel
theorem dX5_usableForBasket_28 : decode cX5_usableForBasket 28 = .ok (.iload_n 1, 1) := by decide +kernel
theorem dX5_usableForBasket_29 : decode cX5_usableForBasket 29 = .ok (.iconst 1, 1) := by decide +kernel
theorem dX5_usableForBasket_30 : decode cX5_usableForBasket 30 = .ok (.iload_n 2, 1) := by decide +kernel
theorem dX5_usableForBasket_31 : decode cX5_usableForBasket 31 = .ok (.ishl, 1) := by decide +kernel
theorem dX5_usableForBasket_32 : decode cX5_usableForBasket 32 = .ok (.ior, 1) := by decide +kernel
theorem dX5_usableForBasket_33 : decode cX5_usableForBasket 33 = .ok (.istore_n 1, 1) := by decide +kernel
theorem dX5_usableForBasket_34 : decode cX5_usableForBasket 34 = .ok (.iinc 2 1, 3) := by decide +kernel
theorem dX5_usableForBasket_37 : decode cX5_usableForBasket 37 = .ok (.goto (-33), 3) := by decide +kernel
theorem dX5_usableForBasket_40 : decode cX5_usableForBasket 40 = .ok (.iload_n 1, 1) := by decide +kernel
theorem dX5_usableForBasket_41 : decode cX5_usableForBasket 41 = .ok (.ireturn, 1) := by decide +kernel
theorem dX5_stillReached_0 : decode cX5_stillReached 0 = .ok (.iconst 0, 1) := by decide +kernel
theorem dX5_stillReached_1 : decode cX5_stillReached 1 = .ok (.istore_n 2, 1) := by decide +kernel
theorem dX5_stillReached_2 : decode cX5_stillReached 2 = .ok (.iconst 0, 1) := by decide +kernel
theorem dX5_stillReached_3 : decode cX5_stillReached 3 = .ok (.istore_n 3, 1) := by decide +kernel
theorem dX5_stillReached_4 : decode cX5_stillReached 4 = .ok (.iload_n 3, 1) := by decide +kernel
theorem dX5_stillReached_5 : decode cX5_stillReached 5 = .ok (.aload_n 0, 1) := by decide +kernel
theorem dX5_stillReached_6 : decode cX5_stillReached 6 = .ok (.getfield 46, 3) := by decide +kernel
theorem dX5_stillReached_9 : decode cX5_stillReached 9 = .ok (.if_icmp .ge 42, 3) := by decide +kernel
theorem dX5_stillReached_12 : decode cX5_stillReached 12 = .ok (.aload_n 1, 1) := by decide +kernel
theorem dX5_stillReached_13 : decode cX5_stillReached 13 = .ok (.getfield 206, 3) := by decide +kernel
theorem dX5_stillReached_16 : decode cX5_stillReached 16 = .ok (.iload_n 3, 1) := by decide +kernel
theorem dX5_stillReached_17 : decode cX5_stillReached 17 = .ok (.invokestatic 249, 3) := by decide +kernel
theorem dX5_stillReached_20 : decode cX5_stillReached 20 = .ok (.ifCond .eq 25, 3) := by decide +kernel
theorem dX5_stillReached_23 : decode cX5_stillReached 23 = .ok (.aload_n 0, 1) := by decide +kernel
theorem dX5_stillReached_24 : decode cX5_stillReached 24 = .ok (.getfield 18, 3) := by decide +kernel
theorem dX5_stillReached_27 : decode cX5_stillReached 27 = .ok (.iload_n 3, 1) := by decide +kernel
theorem dX5_stillReached_28 : decode cX5_stillReached 28 = .ok (.aaload, 1) := by decide +kernel
theorem dX5_stillReached_29 : decode cX5_stillReached 29 = .ok (.aload_n 1, 1) := by decide +kernel
theorem dX5_stillReached_30 : decode cX5_stillReached 30 = .ok (.getfield 197, 3) := by decide +kernel
theorem dX5_stillReached_33 : decode cX5_stillReached 33 = .ok (.invokevirtual 258, 3) := by decide +kernel
theorem dX5_stillReached_36 : decode cX5_stillReached 36 = .ok (.ifCond .eq 9, 3) := by decide +kernel
theorem dX5_stillReached_39 : decode cX5_stillReached 39 = .ok (.iload_n 2, 1) := by decide +kernel
theorem dX5_stillReached_40 : decode cX5_stillReached 40 = .ok (.iconst 1, 1) := by decide +kernel
theorem dX5_stillReached_41 : decode cX5_stillReached 41 = .ok (.iload_n 3, 1) := by decide +kernel
theorem dX5_stillReached_42 : decode cX5_stillReached 42 = .ok (.ishl, 1) := by decide +kernel
theorem dX5_stillReached_43 : decode cX5_stillReached 43 = .ok (.ior, 1) := by decide +kernel
theorem dX5_stillReached_44 : decode cX5_stillReached 44 = .ok (.istore_n 2, 1) := by decide +kernel
theorem dX5_stillReached_45 : decode cX5_stillReached 45 = .ok (.iinc 3 1, 3) := by decide +kernel
theorem dX5_stillReached_48 : decode cX5_stillReached 48 = .ok (.goto (-44), 3) := by decide +kernel
theorem dX5_stillReached_51 : decode cX5_stillReached 51 = .ok (.iload_n 2, 1) := by decide +kernel
theorem dX5_stillReached_52 : decode cX5_stillReached 52 = .ok (.ireturn, 1) := by decide +kernel
theorem dX5_useUp_0 : decode cX5_useUp 0 = .ok (.iconst 0, 1) := by decide +kernel
theorem dX5_useUp_1 : decode cX5_useUp 1 = .ok (.istore_n 2, 1) := by decide +kernel
theorem dX5_useUp_2 : decode cX5_useUp 2 = .ok (.iload_n 2, 1) := by decide +kernel
theorem dX5_useUp_3 : decode cX5_useUp 3 = .ok (.aload_n 0, 1) := by decide +kernel
theorem dX5_useUp_4 : decode cX5_useUp 4 = .ok (.getfield 46, 3) := by decide +kernel
theorem dX5_useUp_7 : decode cX5_useUp 7 = .ok (.if_icmp .ge 32, 3) := by decide +kernel
theorem dX5_useUp_10 : decode cX5_useUp 10 = .ok (.iload_n 1, 1) := by decide +kernel
theorem dX5_useUp_11 : decode cX5_useUp 11 = .ok (.iload_n 2, 1) := by decide +kernel
theorem dX5_useUp_12 : decode cX5_useUp 12 = .ok (.invokestatic 249, 3) := by decide +kernel
theorem dX5_useUp_15 : decode cX5_useUp 15 = .ok (.ifCond .eq 18, 3) := by decide +kernel
theorem dX5_useUp_18 : decode cX5_useUp 18 = .ok (.aload_n 0, 1) := by decide +kernel
theorem dX5_useUp_19 : decode cX5_useUp 19 = .ok (.getfield 18, 3) := by decide +kernel
theorem dX5_useUp_22 : decode cX5_useUp 22 = .ok (.iload_n 2, 1) := by decide +kernel
theorem dX5_useUp_23 : decode cX5_useUp 23 = .ok (.aaload, 1) := by decide +kernel
theorem dX5_useUp_24 : decode cX5_useUp 24 = .ok (.dup, 1) := by decide +kernel
theorem dX5_useUp_25 : decode cX5_useUp 25 = .ok (.getfield 123, 3) := by decide +kernel
theorem dX5_useUp_28 : decode cX5_useUp 28 = .ok (.iconst 1, 1) := by decide +kernel
theorem dX5_useUp_29 : decode cX5_useUp 29 = .ok (.isub, 1) := by decide +kernel
theorem dX5_useUp_30 : decode cX5_useUp 30 = .ok (.putfield 123, 3) := by decide +kernel
theorem dX5_useUp_33 : decode cX5_useUp 33 = .ok (.iinc 2 1, 3) := by decide +kernel
theorem dX5_useUp_36 : decode cX5_useUp 36 = .ok (.goto (-34), 3) := by decide +kernel
theorem dX5_useUp_39 : decode cX5_useUp 39 = .ok (.return_, 1) := by decide +kernel
theorem dX5_layAndApply_0 : decode cX5_layAndApply 0 = .ok (.aload_n 0, 1) := by decide +kernel
theorem dX5_layAndApply_1 : decode cX5_layAndApply 1 = .ok (.getfield 31, 3) := by decide +kernel
theorem dX5_layAndApply_4 : decode cX5_layAndApply 4 = .ok (.aload_n 1, 1) := by decide +kernel
theorem dX5_layAndApply_5 : decode cX5_layAndApply 5 = .ok (.invokevirtual 261, 3) := by decide +kernel
theorem dX5_layAndApply_8 : decode cX5_layAndApply 8 = .ok (.iconst 0, 1) := by decide +kernel
theorem dX5_layAndApply_9 : decode cX5_layAndApply 9 = .ok (.istore_n 3, 1) := by decide +kernel
theorem dX5_layAndApply_10 : decode cX5_layAndApply 10 = .ok (.iload_n 3, 1) := by decide +kernel
theorem dX5_layAndApply_11 : decode cX5_layAndApply 11 = .ok (.aload_n 0, 1) := by decide +kernel
theorem dX5_layAndApply_12 : decode cX5_layAndApply 12 = .ok (.getfield 46, 3) := by decide +kernel
theorem dX5_layAndApply_15 : decode cX5_layAndApply 15 = .ok (.if_icmp .ge 31, 3) := by decide +kernel
theorem dX5_layAndApply_18 : decode cX5_layAndApply 18 = .ok (.iload_n 2, 1) := by decide +kernel
theorem dX5_layAndApply_19 : decode cX5_layAndApply 19 = .ok (.iload_n 3, 1) := by decide +kernel
theorem dX5_layAndApply_20 : decode cX5_layAndApply 20 = .ok (.invokestatic 249, 3) := by decide +kernel
theorem dX5_layAndApply_23 : decode cX5_layAndApply 23 = .ok (.ifCond .eq 17, 3) := by decide +kernel
theorem dX5_layAndApply_26 : decode cX5_layAndApply 26 = .ok (.aload_n 0, 1) := by decide +kernel
theorem dX5_layAndApply_27 : decode cX5_layAndApply 27 = .ok (.getfield 31, 3) := by decide +kernel
theorem dX5_layAndApply_30 : decode cX5_layAndApply 30 = .ok (.aload_n 0, 1) := by decide +kernel
theorem dX5_layAndApply_31 : decode cX5_layAndApply 31 = .ok (.getfield 18, 3) := by decide +kernel
theorem dX5_layAndApply_34 : decode cX5_layAndApply 34 = .ok (.iload_n 3, 1) := by decide +kernel
theorem dX5_layAndApply_35 : decode cX5_layAndApply 35 = .ok (.aaload, 1) := by decide +kernel
theorem dX5_layAndApply_36 : decode cX5_layAndApply 36 = .ok (.iconst 0, 1) := by decide +kernel
theorem dX5_layAndApply_37 : decode cX5_layAndApply 37 = .ok (.invokevirtual 265, 3) := by decide +kernel
theorem dX5_layAndApply_40 : decode cX5_layAndApply 40 = .ok (.iinc 3 1, 3) := by decide +kernel
theorem dX5_layAndApply_43 : decode cX5_layAndApply 43 = .ok (.goto (-33), 3) := by decide +kernel
theorem dX5_layAndApply_46 : decode cX5_layAndApply 46 = .ok (.return_, 1) := by decide +kernel
theorem dX5_goodsOf_0 : decode cX5_goodsOf 0 = .ok (.aload_n 0, 1) := by decide +kernel
theorem dX5_goodsOf_1 : decode cX5_goodsOf 1 = .ok (.aload_n 1, 1) := by decide +kernel
theorem dX5_goodsOf_2 : decode cX5_goodsOf 2 = .ok (.iload_n 2, 1) := by decide +kernel
theorem dX5_goodsOf_3 : decode cX5_goodsOf 3 = .ok (.invokevirtual 158, 3) := by decide +kernel
theorem dX5_goodsOf_6 : decode cX5_goodsOf 6 = .ok (.aload_n 0, 1) := by decide +kernel
theorem dX5_goodsOf_7 : decode cX5_goodsOf 7 = .ok (.getfield 31, 3) := by decide +kernel
theorem dX5_goodsOf_10 : decode cX5_goodsOf 10 = .ok (.iconst 0, 1) := by decide +kernel
theorem dX5_goodsOf_11 : decode cX5_goodsOf 11 = .ok (.invokevirtual 269, 3) := by decide +kernel
theorem dX5_goodsOf_14 : decode cX5_goodsOf 14 = .ok (.ireturn, 1) := by decide +kernel
theorem dX5_feeFor_0 : decode cX5_feeFor 0 = .ok (.iload_n 2, 1) := by decide +kernel
theorem dX5_feeFor_1 : decode cX5_feeFor 1 = .ok (.aload_n 0, 1) := by decide +kernel
theorem dX5_feeFor_2 : decode cX5_feeFor 2 = .ok (.getfield 56, 3) := by decide +kernel
theorem dX5_feeFor_5 : decode cX5_feeFor 5 = .ok (.if_icmp .ge 21, 3) := by decide +kernel
theorem dX5_feeFor_8 : decode cX5_feeFor 8 = .ok (.aload_n 0, 1) := by decide +kernel
theorem dX5_feeFor_9 : decode cX5_feeFor 9 = .ok (.getfield 12, 3) := by decide +kernel
theorem dX5_feeFor_12 : decode cX5_feeFor 12 = .ok (.invokevirtual 177, 3) := by decide +kernel
theorem dX5_feeFor_15 : decode cX5_feeFor 15 = .ok (.ifCond .eq 11, 3) := by decide +kernel
theorem dX5_feeFor_18 : decode cX5_feeFor 18 = .ok (.aload_n 0, 1) := by decide +kernel
theorem dX5_feeFor_19 : decode cX5_feeFor 19 = .ok (.iload_n 1, 1) := by decide +kernel
theorem dX5_feeFor_20 : decode cX5_feeFor 20 = .ok (.invokevirtual 272, 3) := by decide +kernel
theorem dX5_feeFor_23 : decode cX5_feeFor 23 = .ok (.ifCond .eq 5, 3) := by decide +kernel
theorem dX5_feeFor_26 : decode cX5_feeFor 26 = .ok (.iconst 0, 1) := by decide +kernel
theorem dX5_feeFor_27 : decode cX5_feeFor 27 = .ok (.ireturn, 1) := by decide +kernel
theorem dX5_feeFor_28 : decode cX5_feeFor 28 = .ok (.aload_n 0, 1) := by decide +kernel
theorem dX5_feeFor_29 : decode cX5_feeFor 29 = .ok (.getfield 52, 3) := by decide +kernel
theorem dX5_feeFor_32 : decode cX5_feeFor 32 = .ok (.ireturn, 1) := by decide +kernel
theorem dX5_hasFreight_0 : decode cX5_hasFreight 0 = .ok (.iconst 0, 1) := by decide +kernel
theorem dX5_hasFreight_1 : decode cX5_hasFreight 1 = .ok (.istore_n 2, 1) := by decide +kernel
theorem dX5_hasFreight_2 : decode cX5_hasFreight 2 = .ok (.iload_n 2, 1) := by decide +kernel
theorem dX5_hasFreight_3 : decode cX5_hasFreight 3 = .ok (.aload_n 0, 1) := by decide +kernel
theorem dX5_hasFreight_4 : decode cX5_hasFreight 4 = .ok (.getfield 46, 3) := by decide +kernel
theorem dX5_hasFreight_7 : decode cX5_hasFreight 7 = .ok (.if_icmp .ge 32, 3) := by decide +kernel
theorem dX5_hasFreight_10 : decode cX5_hasFreight 10 = .ok (.iload_n 1, 1) := by decide +kernel
theorem dX5_hasFreight_11 : decode cX5_hasFreight 11 = .ok (.iload_n 2, 1) := by decide +kernel
theorem dX5_hasFreight_12 : decode cX5_hasFreight 12 = .ok (.invokestatic 249, 3) := by decide +kernel
theorem dX5_hasFreight_15 : decode cX5_hasFreight 15 = .ok (.ifCond .eq 18, 3) := by decide +kernel
theorem dX5_hasFreight_18 : decode cX5_hasFreight 18 = .ok (.aload_n 0, 1) := by decide +kernel
theorem dX5_hasFreight_19 : decode cX5_hasFreight 19 = .ok (.getfield 18, 3) := by decide +kernel
theorem dX5_hasFreight_22 : decode cX5_hasFreight 22 = .ok (.iload_n 2, 1) := by decide +kernel
theorem dX5_hasFreight_23 : decode cX5_hasFreight 23 = .ok (.aaload, 1) := by decide +kernel
theorem dX5_hasFreight_24 : decode cX5_hasFreight 24 = .ok (.getfield 275, 3) := by decide +kernel
theorem dX5_hasFreight_27 : decode cX5_hasFreight 27 = .ok (.iconst 3, 1) := by decide +kernel
theorem dX5_hasFreight_28 : decode cX5_hasFreight 28 = .ok (.if_icmp .ne 5, 3) := by decide +kernel
theorem dX5_hasFreight_31 : decode cX5_hasFreight 31 = .ok (.iconst 1, 1) := by decide +kernel
theorem dX5_hasFreight_32 : decode cX5_hasFreight 32 = .ok (.ireturn, 1) := by decide +kernel
theorem dX5_hasFreight_33 : decode cX5_hasFreight 33 = .ok (.iinc 2 1, 3) := by decide +kernel
theorem dX5_hasFreight_36 : decode cX5_hasFreight 36 = .ok (.goto (-34), 3) := by decide +kernel
theorem dX5_hasFreight_39 : decode cX5_hasFreight 39 = .ok (.iconst 0, 1) := by decide +kernel
theorem dX5_hasFreight_40 : decode cX5_hasFreight 40 = .ok (.ireturn, 1) := by decide +kernel
theorem dX5_searchSets_0 : decode cX5_searchSets 0 = .ok (.aload_n 0, 1) := by decide +kernel
theorem dX5_searchSets_1 : decode cX5_searchSets 1 = .ok (.getfield 38, 3) := by decide +kernel
theorem dX5_searchSets_4 : decode cX5_searchSets 4 = .ok (.iload_n 1, 1) := by decide +kernel
theorem dX5_searchSets_5 : decode cX5_searchSets 5 = .ok (.aload_n 0, 1) := by decide +kernel
theorem dX5_searchSets_6 : decode cX5_searchSets 6 = .ok (.invokevirtual 278, 3) := by decide +kernel
theorem dX5_searchSets_9 : decode cX5_searchSets 9 = .ok (.invokevirtual 281, 3) := by decide +kernel
theorem dX5_searchSets_12 : decode cX5_searchSets 12 = .ok (.aload_n 0, 1) := by decide +kernel
theorem dX5_searchSets_13 : decode cX5_searchSets 13 = .ok (.getfield 31, 3) := by decide +kernel
theorem dX5_searchSets_16 : decode cX5_searchSets 16 = .ok (.aload_n 0, 1) := by decide +kernel
theorem dX5_searchSets_17 : decode cX5_searchSets 17 = .ok (.getfield 12, 3) := by decide +kernel
theorem dX5_searchSets_20 : decode cX5_searchSets 20 = .ok (.invokevirtual 261, 3) := by decide +kernel
theorem dX5_searchSets_23 : decode cX5_searchSets 23 = .ok (.aload_n 0, 1) := by decide +kernel
theorem dX5_searchSets_24 : decode cX5_searchSets 24 = .ok (.iconst 0, 1) := by decide +kernel
theorem dX5_searchSets_25 : decode cX5_searchSets 25 = .ok (.iconst 0, 1) := by decide +kernel
theorem dX5_searchSets_26 : decode cX5_searchSets 26 = .ok (.iconst 0, 1) := by decide +kernel
theorem dX5_searchSets_27 : decode cX5_searchSets 27 = .ok (.invokestatic 285, 3) := by decide +kernel
theorem dX5_searchSets_30 : decode cX5_searchSets 30 = .ok (.return_, 1) := by decide +kernel
theorem dX5_extend_0 : decode cX5_extend 0 = .ok (.aload_n 0, 1) := by decide +kernel
theorem dX5_extend_1 : decode cX5_extend 1 = .ok (.getfield 31, 3) := by decide +kernel
theorem dX5_extend_4 : decode cX5_extend 4 = .ok (.iload_n 3, 1) := by decide +kernel
theorem dX5_extend_5 : decode cX5_extend 5 = .ok (.invokevirtual 269, 3) := by decide +kernel
theorem dX5_extend_8 : decode cX5_extend 8 = .ok (.istore 4, 2) := by decide +kernel
theorem dX5_extend_10 : decode cX5_extend 10 = .ok (.aload_n 0, 1) := by decide +kernel
theorem dX5_extend_11 : decode cX5_extend 11 = .ok (.getfield 38, 3) := by decide +kernel
theorem dX5_extend_14 : decode cX5_extend 14 = .ok (.iload_n 1, 1) := by decide +kernel
theorem dX5_extend_15 : decode cX5_extend 15 = .ok (.iload 4, 2) := by decide +kernel
theorem dX5_extend_17 : decode cX5_extend 17 = .ok (.aload_n 0, 1) := by decide +kernel
theorem dX5_extend_18 : decode cX5_extend 18 = .ok (.iload_n 1, 1) := by decide +kernel
theorem dX5_extend_19 : decode cX5_extend 19 = .ok (.iload 4, 2) := by decide +kernel
theorem dX5_extend_21 : decode cX5_extend 21 = .ok (.invokevirtual 155, 3) := by decide +kernel
theorem dX5_extend_24 : decode cX5_extend 24 = .ok (.iadd, 1) := by decide +kernel
theorem dX5_extend_25 : decode cX5_extend 25 = .ok (.invokevirtual 289, 3) := by decide +kernel
theorem dX5_extend_28 : decode cX5_extend 28 = .ok (.iload_n 3, 1) := by decide +kernel
theorem dX5_extend_29 : decode cX5_extend 29 = .ok (.bipush 8, 2) := by decide +kernel
theorem dX5_extend_31 : decode cX5_extend 31 = .ok (.if_icmp .lt 4, 3) := by decide +kernel
theorem dX5_extend_34 : decode cX5_extend 34 = .ok (.return_, 1) := by decide +kernel
theorem dX5_extend_35 : decode cX5_extend 35 = .ok (.iload_n 2, 1) := by decide +kernel
theorem dX5_extend_36 : decode cX5_extend 36 = .ok (.istore 5, 2) := by decide +kernel
theorem dX5_extend_38 : decode cX5_extend 38 = .ok (.iload 5, 2) := by decide +kernel
theorem dX5_extend_40 : decode cX5_extend 40 = .ok (.aload_n 0, 1) := by decide +kernel
theorem dX5_extend_41 : decode cX5_extend 41 = .ok (.getfield 46, 3) := by decide +kernel
theorem dX5_extend_44 : decode cX5_extend 44 = .ok (.if_icmp .ge 79, 3) := by decide +kernel
theorem dX5_extend_47 : decode cX5_extend 47 = .ok (.aload_n 0, 1) := by decide +kernel
theorem dX5_extend_48 : decode cX5_extend 48 = .ok (.getfield 38, 3) := by decide +kernel
theorem dX5_extend_51 : decode cX5_extend 51 = .ok (.getfield 292, 3) := by decide +kernel
theorem dX5_extend_54 : decode cX5_extend 54 = .ok (.iload 5, 2) := by decide +kernel
theorem dX5_extend_56 : decode cX5_extend 56 = .ok (.invokestatic 249, 3) := by decide +kernel
theorem dX5_extend_59 : decode cX5_extend 59 = .ok (.ifCond .eq 58, 3) := by decide +kernel
theorem dX5_extend_62 : decode cX5_extend 62 = .ok (.aload_n 0, 1) := by decide +kernel
theorem dX5_extend_63 : decode cX5_extend 63 = .ok (.iload 5, 2) := by decide +kernel
theorem dX5_extend_65 : decode cX5_extend 65 = .ok (.iload_n 1, 1) := by decide +kernel
theorem dX5_extend_66 : decode cX5_extend 66 = .ok (.invokevirtual 252, 3) := by decide +kernel
theorem dX5_extend_69 : decode cX5_extend 69 = .ok (.ifCond .eq 48, 3) := by decide +kernel
theorem dX5_extend_72 : decode cX5_extend 72 = .ok (.aload_n 0, 1) := by decide +kernel
theorem dX5_extend_73 : decode cX5_extend 73 = .ok (.getfield 31, 3) := by decide +kernel
theorem dX5_extend_76 : decode cX5_extend 76 = .ok (.iload_n 3, 1) := by decide +kernel
theorem dX5_extend_77 : decode cX5_extend 77 = .ok (.iload_n 3, 1) := by decide +kernel
theorem dX5_extend_78 : decode cX5_extend 78 = .ok (.iconst 1, 1) := by decide +kernel
theorem dX5_extend_79 : decode cX5_extend 79 = .ok (.iadd, 1) := by decide +kernel
theorem dX5_extend_80 : decode cX5_extend 80 = .ok (.invokevirtual 295, 3) := by decide +kernel
theorem dX5_extend_83 : decode cX5_extend 83 = .ok (.aload_n 0, 1) := by decide +kernel
theorem dX5_extend_84 : decode cX5_extend 84 = .ok (.getfield 31, 3) := by decide +kernel
theorem dX5_extend_87 : decode cX5_extend 87 = .ok (.aload_n 0, 1) := by decide +kernel
theorem dX5_extend_88 : decode cX5_extend 88 = .ok (.getfield 18, 3) := by decide +kernel
theorem dX5_extend_91 : decode cX5_extend 91 = .ok (.iload 5, 2) := by decide +kernel
theorem dX5_extend_93 : decode cX5_extend 93 = .ok (.aaload, 1) := by decide +kernel
theorem dX5_extend_94 : decode cX5_extend 94 = .ok (.iload_n 3, 1) := by decide +kernel
theorem dX5_extend_95 : decode cX5_extend 95 = .ok (.iconst 1, 1) := by decide +kernel
theorem dX5_extend_96 : decode cX5_extend 96 = .ok (.iadd, 1) := by decide +kernel
theorem dX5_extend_97 : decode cX5_extend 97 = .ok (.invokevirtual 265, 3) := by decide +kernel
theorem dX5_extend_100 : decode cX5_extend 100 = .ok (.aload_n 0, 1) := by decide +kernel
theorem dX5_extend_101 : decode cX5_extend 101 = .ok (.iload_n 1, 1) := by decide +kernel
theorem dX5_extend_102 : decode cX5_extend 102 = .ok (.iconst 1, 1) := by decide +kernel
theorem dX5_extend_103 : decode cX5_extend 103 = .ok (.iload 5, 2) := by decide +kernel
theorem dX5_extend_105 : decode cX5_extend 105 = .ok (.ishl, 1) := by decide +kernel
theorem dX5_extend_106 : decode cX5_extend 106 = .ok (.ior, 1) := by decide +kernel
theorem dX5_extend_107 : decode cX5_extend 107 = .ok (.iload 5, 2) := by decide +kernel
theorem dX5_extend_109 : decode cX5_extend 109 = .ok (.iconst 1, 1) := by decide +kernel
theorem dX5_extend_110 : decode cX5_extend 110 = .ok (.iadd, 1) := by decide +kernel
theorem dX5_extend_111 : decode cX5_extend 111 = .ok (.iload_n 3, 1) := by decide +kernel
theorem dX5_extend_112 : decode cX5_extend 112 = .ok (.iconst 1, 1) := by decide +kernel
theorem dX5_extend_113 : decode cX5_extend 113 = .ok (.iadd, 1) := by decide +kernel
theorem dX5_extend_114 : decode cX5_extend 114 = .ok (.invokestatic 285, 3) := by decide +kernel
theorem dX5_extend_117 : decode cX5_extend 117 = .ok (.iinc 5 1, 3) := by decide +kernel
theorem dX5_extend_120 : decode cX5_extend 120 = .ok (.goto (-82), 3) := by decide +kernel
theorem dX5_extend_123 : decode cX5_extend 123 = .ok (.return_, 1) := by decide +kernel
theorem dJ6_bitCount_0f7a4_0 : decode cJ6_bitCount_0f7a4 0 = .ok (.iload_n 0, 1) := by decide +kernel
theorem dJ6_bitCount_0f7a4_1 : decode cJ6_bitCount_0f7a4 1 = .ok (.iload_n 0, 1) := by decide +kernel
theorem dJ6_bitCount_0f7a4_2 : decode cJ6_bitCount_0f7a4 2 = .ok (.iconst 1, 1) := by decide +kernel
theorem dJ6_bitCount_0f7a4_3 : decode cJ6_bitCount_0f7a4 3 = .ok (.iushr, 1) := by decide +kernel
theorem dJ6_bitCount_0f7a4_4 : decode cJ6_bitCount_0f7a4 4 = .ok (.ldc_w 265, 3) := by decide +kernel
theorem dJ6_bitCount_0f7a4_7 : decode cJ6_bitCount_0f7a4 7 = .ok (.iand, 1) := by decide +kernel
theorem dJ6_bitCount_0f7a4_8 : decode cJ6_bitCount_0f7a4 8 = .ok (.isub, 1) := by decide +kernel
theorem dJ6_bitCount_0f7a4_9 : decode cJ6_bitCount_0f7a4 9 = .ok (.istore_n 0, 1) := by decide +kernel
theorem dJ6_bitCount_0f7a4_10 : decode cJ6_bitCount_0f7a4 10 = .ok (.iload_n 0, 1) := by decide +kernel
theorem dJ6_bitCount_0f7a4_11 : decode cJ6_bitCount_0f7a4 11 = .ok (.ldc_w 266, 3) := by decide +kernel
theorem dJ6_bitCount_0f7a4_14 : decode cJ6_bitCount_0f7a4 14 = .ok (.iand, 1) := by decide +kernel
theorem dJ6_bitCount_0f7a4_15 : decode cJ6_bitCount_0f7a4 15 = .ok (.iload_n 0, 1) := by decide +kernel
theorem dJ6_bitCount_0f7a4_16 : decode cJ6_bitCount_0f7a4 16 = .ok (.iconst 2, 1) := by decide +kernel
theorem dJ6_bitCount_0f7a4_17 : decode cJ6_bitCount_0f7a4 17 = .ok (.iushr, 1) := by decide +kernel
theorem dJ6_bitCount_0f7a4_18 : decode cJ6_bitCount_0f7a4 18 = .ok (.ldc_w 266, 3) := by decide +kernel
theorem dJ6_bitCount_0f7a4_21 : decode cJ6_bitCount_0f7a4 21 = .ok (.iand, 1) := by decide +kernel
theorem dJ6_bitCount_0f7a4_22 : decode cJ6_bitCount_0f7a4 22 = .ok (.iadd, 1) := by decide +kernel
theorem dJ6_bitCount_0f7a4_23 : decode cJ6_bitCount_0f7a4 23 = .ok (.istore_n 0, 1) := by decide +kernel
theorem dJ6_bitCount_0f7a4_24 : decode cJ6_bitCount_0f7a4 24 = .ok (.iload_n 0, 1) := by decide +kernel
theorem dJ6_bitCount_0f7a4_25 : decode cJ6_bitCount_0f7a4 25 = .ok (.iload_n 0, 1) := by decide +kernel
theorem dJ6_bitCount_0f7a4_26 : decode cJ6_bitCount_0f7a4 26 = .ok (.iconst 4, 1) := by decide +kernel
theorem dJ6_bitCount_0f7a4_27 : decode cJ6_bitCount_0f7a4 27 = .ok (.iushr, 1) := by decide +kernel
theorem dJ6_bitCount_0f7a4_28 : decode cJ6_bitCount_0f7a4 28 = .ok (.iadd, 1) := by decide +kernel
theorem dJ6_bitCount_0f7a4_29 : decode cJ6_bitCount_0f7a4 29 = .ok (.ldc_w 267, 3) := by decide +kernel
theorem dJ6_bitCount_0f7a4_32 : decode cJ6_bitCount_0f7a4 32 = .ok (.iand, 1) := by decide +kernel
theorem dJ6_bitCount_0f7a4_33 : decode cJ6_bitCount_0f7a4 33 = .ok (.istore_n 0, 1) := by decide +kernel
theorem dJ6_bitCount_0f7a4_34 : decode cJ6_bitCount_0f7a4 34 = .ok (.iload_n 0, 1) := by decide +kernel
theorem dJ6_bitCount_0f7a4_35 : decode cJ6_bitCount_0f7a4 35 = .ok (.iload_n 0, 1) := by decide +kernel
theorem dJ6_bitCount_0f7a4_36 : decode cJ6_bitCount_0f7a4 36 = .ok (.bipush 8, 2) := by decide +kernel
theorem dJ6_bitCount_0f7a4_38 : decode cJ6_bitCount_0f7a4 38 = .ok (.iushr, 1) := by decide +kernel
theorem dJ6_bitCount_0f7a4_39 : decode cJ6_bitCount_0f7a4 39 = .ok (.iadd, 1) := by decide +kernel
theorem dJ6_bitCount_0f7a4_40 : decode cJ6_bitCount_0f7a4 40 = .ok (.istore_n 0, 1) := by decide +kernel
theorem dJ6_bitCount_0f7a4_41 : decode cJ6_bitCount_0f7a4 41 = .ok (.iload_n 0, 1) := by decide +kernel
theorem dJ6_bitCount_0f7a4_42 : decode cJ6_bitCount_0f7a4 42 = .ok (.iload_n 0, 1) := by decide +kernel
theorem dJ6_bitCount_0f7a4_43 : decode cJ6_bitCount_0f7a4 43 = .ok (.bipush 16, 2) := by decide +kernel
theorem dJ6_bitCount_0f7a4_45 : decode cJ6_bitCount_0f7a4 45 = .ok (.iushr, 1) := by decide +kernel
theorem dJ6_bitCount_0f7a4_46 : decode cJ6_bitCount_0f7a4 46 = .ok (.iadd, 1) := by decide +kernel
theorem dJ6_bitCount_0f7a4_47 : decode cJ6_bitCount_0f7a4 47 = .ok (.istore_n 0, 1) := by decide +kernel
theorem dJ6_bitCount_0f7a4_48 : decode cJ6_bitCount_0f7a4 48 = .ok (.iload_n 0, 1) := by decide +kernel
theorem dJ6_bitCount_0f7a4_49 : decode cJ6_bitCount_0f7a4 49 = .ok (.bipush 63, 2) := by decide +kernel
theorem dJ6_bitCount_0f7a4_51 : decode cJ6_bitCount_0f7a4 51 = .ok (.iand, 1) := by decide +kernel
theorem dJ6_bitCount_0f7a4_52 : decode cJ6_bitCount_0f7a4 52 = .ok (.ireturn, 1) := by decide +kernel
theorem dJ9_min_7cf53_0 : decode cJ9_min_7cf53 0 = .ok (.iload_n 0, 1) := by decide +kernel
theorem dJ9_min_7cf53_1 : decode cJ9_min_7cf53 1 = .ok (.iload_n 1, 1) := by decide +kernel
theorem dJ9_min_7cf53_2 : decode cJ9_min_7cf53 2 = .ok (.if_icmp .gt 7, 3) := by decide +kernel
theorem dJ9_min_7cf53_5 : decode cJ9_min_7cf53 5 = .ok (.iload_n 0, 1) := by decide +kernel
theorem dJ9_min_7cf53_6 : decode cJ9_min_7cf53 6 = .ok (.goto 4, 3) := by decide +kernel
theorem dJ9_min_7cf53_9 : decode cJ9_min_7cf53 9 = .ok (.iload_n 1, 1) := by decide +kernel
theorem dJ9_min_7cf53_10 : decode cJ9_min_7cf53 10 = .ok (.ireturn, 1) := by decide +kernel
theorem dJ7_fill_53178_0 : decode cJ7_fill_53178 0 = .ok (.iconst 0, 1) := by decide +kernel
theorem dJ7_fill_53178_1 : decode cJ7_fill_53178 1 = .ok (.istore_n 2, 1) := by decide +kernel
theorem dJ7_fill_53178_2 : decode cJ7_fill_53178 2 = .ok (.aload_n 0, 1) := by decide +kernel
theorem dJ7_fill_53178_3 : decode cJ7_fill_53178 3 = .ok (.arraylength, 1) := by decide +kernel
theorem dJ7_fill_53178_4 : decode cJ7_fill_53178 4 = .ok (.istore_n 3, 1) := by decide +kernel
theorem dJ7_fill_53178_5 : decode cJ7_fill_53178 5 = .ok (.iload_n 2, 1) := by decide +kernel
theorem dJ7_fill_53178_6 : decode cJ7_fill_53178 6 = .ok (.iload_n 3, 1) := by decide +kernel
theorem dJ7_fill_53178_7 : decode cJ7_fill_53178 7 = .ok (.if_icmp .ge 13, 3) := by decide +kernel
theorem dJ7_fill_53178_10 : decode cJ7_fill_53178 10 = .ok (.aload_n 0, 1) := by decide +kernel
theorem dJ7_fill_53178_11 : decode cJ7_fill_53178 11 = .ok (.iload_n 2, 1) := by decide +kernel
theorem dJ7_fill_53178_12 : decode cJ7_fill_53178 12 = .ok (.iload_n 1, 1) := by decide +kernel
theorem dJ7_fill_53178_13 : decode cJ7_fill_53178 13 = .ok (.iastore, 1) := by decide +kernel
theorem dJ7_fill_53178_14 : decode cJ7_fill_53178 14 = .ok (.iinc 2 1, 3) := by decide +kernel
theorem dJ7_fill_53178_17 : decode cJ7_fill_53178 17 = .ok (.goto (-12), 3) := by decide +kernel
theorem dJ7_fill_53178_20 : decode cJ7_fill_53178 20 = .ok (.return_, 1) := by decide +kernel
theorem dL_below_0 : decode cL_below 0 = .ok (.iload_n 0, 1) := by decide +kernel
theorem dL_below_1 : decode cL_below 1 = .ok (.ldc 7, 2) := by decide +kernel
theorem dL_below_3 : decode cL_below 3 = .ok (.iand, 1) := by decide +kernel
theorem dL_below_4 : decode cL_below 4 = .ok (.iload_n 1, 1) := by decide +kernel
theorem dL_below_5 : decode cL_below 5 = .ok (.irem, 1) := by decide +kernel
theorem dL_below_6 : decode cL_below 6 = .ok (.ireturn, 1) := by decide +kernel
theorem dL_cell_0 : decode cL_cell 0 = .ok (.iload_n 1, 1) := by decide +kernel
theorem dL_cell_1 : decode cL_cell 1 = .ok (.aload_n 0, 1) := by decide +kernel
theorem dL_cell_2 : decode cL_cell 2 = .ok (.arraylength, 1) := by decide +kernel
theorem dL_cell_3 : decode cL_cell 3 = .ok (.if_icmp .ge 9, 3) := by decide +kernel
theorem dL_cell_6 : decode cL_cell 6 = .ok (.aload_n 0, 1) := by decide +kernel
theorem dL_cell_7 : decode cL_cell 7 = .ok (.iload_n 1, 1) := by decide +kernel
theorem dL_cell_8 : decode cL_cell 8 = .ok (.iaload, 1) := by decide +kernel
theorem dL_cell_9 : decode cL_cell 9 = .ok (.goto 9, 3) := by decide +kernel
theorem dL_cell_12 : decode cL_cell 12 = .ok (.ldc 8, 2) := by decide +kernel
theorem dL_cell_14 : decode cL_cell 14 = .ok (.iload_n 1, 1) := by decide +kernel
theorem dL_cell_15 : decode cL_cell 15 = .ok (.iconst 3, 1) := by decide +kernel
theorem dL_cell_16 : decode cL_cell 16 = .ok (.iadd, 1) := by decide +kernel
theorem dL_cell_17 : decode cL_cell 17 = .ok (.imul, 1) := by decide +kernel
theorem dL_cell_18 : decode cL_cell 18 = .ok (.ireturn, 1) := by decide +kernel
theorem dL_build_0 : decode cL_build 0 = .ok (.iconst 1, 1) := by decide +kernel
theorem dL_build_1 : decode cL_build 1 = .ok (.aload_n 1, 1) := by decide +kernel
theorem dL_build_2 : decode cL_build 2 = .ok (.iload_n 2, 1) := by decide +kernel
theorem dL_build_3 : decode cL_build 3 = .ok (.invokestatic 9, 3) := by decide +kernel
theorem dL_build_6 : decode cL_build 6 = .ok (.iload_n 3, 1) := by decide +kernel
theorem dL_build_7 : decode cL_build 7 = .ok (.invokestatic 15, 3) := by decide +kernel
theorem dL_build_10 : decode cL_build 10 = .ok (.iadd, 1) := by decide +kernel
theorem dL_build_11 : decode cL_build 11 = .ok (.istore 7, 2) := by decide +kernel
theorem dL_build_13 : decode cL_build 13 = .ok (.iconst 0, 1) := by decide +kernel
theorem dL_build_14 : decode cL_build 14 = .ok (.istore 8, 2) := by decide +kernel
theorem dL_build_16 : decode cL_build 16 = .ok (.iload 8, 2) := by decide +kernel
theorem dL_build_18 : decode cL_build 18 = .ok (.iload 7, 2) := by decide +kernel
theorem dL_build_20 : decode cL_build 20 = .ok (.if_icmp .ge 153, 3) := by decide +kernel
theorem dL_build_23 : decode cL_build 23 = .ok (.aload_n 1, 1) := by decide +kernel
theorem dL_build_24 : decode cL_build 24 = .ok (.iload_n 2, 1) := by decide +kernel
theorem dL_build_25 : decode cL_build 25 = .ok (.iconst 1, 1) := by decide +kernel
theorem dL_build_26 : decode cL_build 26 = .ok (.iadd, 1) := by decide +kernel
theorem dL_build_27 : decode cL_build 27 = .ok (.iload 8, 2) := by decide +kernel
theorem dL_build_29 : decode cL_build 29 = .ok (.iconst 3, 1) := by decide +kernel
theorem dL_build_30 : decode cL_build 30 = .ok (.irem, 1) := by decide +kernel
theorem dL_build_31 : decode cL_build 31 = .ok (.iadd, 1) := by decide +kernel
theorem dL_build_32 : decode cL_build 32 = .ok (.invokestatic 9, 3) := by decide +kernel
theorem dL_build_35 : decode cL_build 35 = .ok (.iload 8, 2) := by decide +kernel
theorem dL_build_37 : decode cL_build 37 = .ok (.iconst 3, 1) := by decide +kernel
theorem dL_build_38 : decode cL_build 38 = .ok (.idiv, 1) := by decide +kernel
theorem dL_build_39 : decode cL_build 39 = .ok (.bipush 9, 2) := by decide +kernel
theorem dL_build_41 : decode cL_build 41 = .ok (.imul, 1) := by decide +kernel
theorem dL_build_42 : decode cL_build 42 = .ok (.ishr, 1) := by decide +kernel
theorem dL_build_43 : decode cL_build 43 = .ok (.istore 9, 2) := by decide +kernel
theorem dL_build_45 : decode cL_build 45 = .ok (.aload 5, 2) := by decide +kernel
theorem dL_build_47 : decode cL_build 47 = .ok (.iconst 3, 1) := by decide +kernel
theorem dL_build_48 : decode cL_build 48 = .ok (.iload 8, 2) := by decide +kernel
theorem dL_build_50 : decode cL_build 50 = .ok (.imul, 1) := by decide +kernel
theorem dL_build_51 : decode cL_build 51 = .ok (.iload 9, 2) := by decide +kernel
theorem dL_build_53 : decode cL_build 53 = .ok (.iconst 3, 1) := by decide +kernel
theorem dL_build_54 : decode cL_build 54 = .ok (.invokestatic 15, 3) := by decide +kernel
theorem dL_build_57 : decode cL_build 57 = .ok (.ifCond .ne 17, 3) := by decide +kernel
theorem dL_build_60 : decode cL_build 60 = .ok (.iconst 1, 1) := by decide +kernel
theorem dL_build_61 : decode cL_build 61 = .ok (.iload 9, 2) := by decide +kernel
theorem dL_build_63 : decode cL_build 63 = .ok (.iconst 2, 1) := by decide +kernel
theorem dL_build_64 : decode cL_build 64 = .ok (.ishr, 1) := by decide +kernel
theorem dL_build_65 : decode cL_build 65 = .ok (.bipush 12, 2) := by decide +kernel
theorem dL_build_67 : decode cL_build 67 = .ok (.invokestatic 15, 3) := by decide +kernel
theorem dL_build_70 : decode cL_build 70 = .ok (.iadd, 1) := by decide +kernel
theorem dL_build_71 : decode cL_build 71 = .ok (.goto 15, 3) := by decide +kernel
theorem dL_build_74 : decode cL_build 74 = .ok (.iconst 1, 1) := by decide +kernel
theorem dL_build_75 : decode cL_build 75 = .ok (.iload 9, 2) := by decide +kernel
theorem dL_build_77 : decode cL_build 77 = .ok (.iconst 2, 1) := by decide +kernel
theorem dL_build_78 : decode cL_build 78 = .ok (.ishr, 1) := by decide +kernel
theorem dL_build_79 : decode cL_build 79 = .ok (.sipush 900, 3) := by decide +kernel
theorem dL_build_82 : decode cL_build 82 = .ok (.invokestatic 15, 3) := by decide +kernel
theorem dL_build_85 : decode cL_build 85 = .ok (.iadd, 1) := by decide +kernel
theorem dL_build_86 : decode cL_build 86 = .ok (.iastore, 1) := by decide +kernel
theorem dL_build_87 : decode cL_build 87 = .ok (.aload 5, 2) := by decide +kernel
theorem dL_build_89 : decode cL_build 89 = .ok (.iconst 3, 1) := by decide +kernel
theorem dL_build_90 : decode cL_build 90 = .ok (.iload 8, 2) := by decide +kernel
theorem dL_build_92 : decode cL_build 92 = .ok (.imul, 1) := by decide +kernel
theorem dL_build_93 : decode cL_build 93 = .ok (.iconst 1, 1) := by decide +kernel
theorem dL_build_94 : decode cL_build 94 = .ok (.iadd, 1) := by decide +kernel
theorem dL_build_95 : decode cL_build 95 = .ok (.iload 9, 2) := by decide +kernel
theorem dL_build_97 : decode cL_build 97 = .ok (.iconst 5, 1) := by decide +kernel
theorem dL_build_98 : decode cL_build 98 = .ok (.ishr, 1) := by decide +kernel
theorem dL_build_99 : decode cL_build 99 = .ok (.iconst 3, 1) := by decide +kernel
theorem dL_build_100 : decode cL_build 100 = .ok (.invokestatic 15, 3) := by decide +kernel
theorem dL_build_103 : decode cL_build 103 = .ok (.iastore, 1) := by decide +kernel
theorem dL_build_104 : decode cL_build 104 = .ok (.aload 5, 2) := by decide +kernel
theorem dL_build_106 : decode cL_build 106 = .ok (.iconst 3, 1) := by decide +kernel
theorem dL_build_107 : decode cL_build 107 = .ok (.iload 8, 2) := by decide +kernel
theorem dL_build_109 : decode cL_build 109 = .ok (.imul, 1) := by decide +kernel
theorem dL_build_110 : decode cL_build 110 = .ok (.iconst 2, 1) := by decide +kernel
theorem dL_build_111 : decode cL_build 111 = .ok (.iadd, 1) := by decide +kernel
theorem dL_build_112 : decode cL_build 112 = .ok (.iload 9, 2) := by decide +kernel
theorem dL_build_114 : decode cL_build 114 = .ok (.bipush 7, 2) := by decide +kernel
theorem dL_build_116 : decode cL_build 116 = .ok (.ishr, 1) := by decide +kernel
theorem dL_build_117 : decode cL_build 117 = .ok (.iconst 4, 1) := by decide +kernel
theorem dL_build_118 : decode cL_build 118 = .ok (.invokestatic 15, 3) := by decide +kernel
theorem dL_build_121 : decode cL_build 121 = .ok (.iastore, 1) := by decide +kernel
theorem dL_build_122 : decode cL_build 122 = .ok (.aload_n 0, 1) := by decide +kernel
theorem dL_build_123 : decode cL_build 123 = .ok (.aload 5, 2) := by decide +kernel
theorem dL_build_125 : decode cL_build 125 = .ok (.iconst 3, 1) := by decide +kernel
theorem dL_build_126 : decode cL_build 126 = .ok (.iload 8, 2) := by decide +kernel
theorem dL_build_128 : decode cL_build 128 = .ok (.imul, 1) := by decide +kernel
theorem dL_build_129 : decode cL_build 129 = .ok (.iaload, 1) := by decide +kernel
theorem dL_build_130 : decode cL_build 130 = .ok (.aload 5, 2) := by decide +kernel
theorem dL_build_132 : decode cL_build 132 = .ok (.iconst 3, 1) := by decide +kernel
theorem dL_build_133 : decode cL_build 133 = .ok (.iload 8, 2) := by decide +kernel
theorem dL_build_135 : decode cL_build 135 = .ok (.imul, 1) := by decide +kernel
theorem dL_build_136 : decode cL_build 136 = .ok (.iconst 1, 1) := by decide +kernel
theorem dL_build_137 : decode cL_build 137 = .ok (.iadd, 1) := by decide +kernel
theorem dL_build_138 : decode cL_build 138 = .ok (.iaload, 1) := by decide +kernel
theorem dL_build_139 : decode cL_build 139 = .ok (.invokevirtual 19, 3) := by decide +kernel
theorem dL_build_142 : decode cL_build 142 = .ok (.iload 8, 2) := by decide +kernel
theorem dL_build_144 : decode cL_build 144 = .ok (.if_icmp .ne 21, 3) := by decide +kernel
theorem dL_build_147 : decode cL_build 147 = .ok (.aload_n 0, 1) := by decide +kernel
theorem dL_build_148 : decode cL_build 148 = .ok (.iload 8, 2) := by decide +kernel
theorem dL_build_150 : decode cL_build 150 = .ok (.aload 5, 2) := by decide +kernel
theorem dL_build_152 : decode cL_build 152 = .ok (.iconst 3, 1) := by decide +kernel
theorem dL_build_153 : decode cL_build 153 = .ok (.iload 8, 2) := by decide +kernel
theorem dL_build_155 : decode cL_build 155 = .ok (.imul, 1) := by decide +kernel
theorem dL_build_156 : decode cL_build 156 = .ok (.iconst 2, 1) := by decide +kernel
theorem dL_build_157 : decode cL_build 157 = .ok (.iadd, 1) := by decide +kernel
theorem dL_build_158 : decode cL_build 158 = .ok (.iaload, 1) := by decide +kernel
theorem dL_build_159 : decode cL_build 159 = .ok (.invokevirtual 24, 3) := by decide +kernel
theorem dL_build_162 : decode cL_build 162 = .ok (.ifCond .eq 5, 3) := by decide +kernel
theorem dL_build_165 : decode cL_build 165 = .ok (.aconst_null, 1) := by decide +kernel
theorem dL_build_166 : decode cL_build 166 = .ok (.areturn, 1) := by decide +kernel
theorem dL_build_167 : decode cL_build 167 = .ok (.iinc 8 1, 3) := by decide +kernel
theorem dL_build_170 : decode cL_build 170 = .ok (.goto (-154), 3) := by decide +kernel
theorem dL_build_173 : decode cL_build 173 = .ok (.aload_n 1, 1) := by decide +kernel
theorem dL_build_174 : decode cL_build 174 = .ok (.iload_n 2, 1) := by decide +kernel
theorem dL_build_175 : decode cL_build 175 = .ok (.invokestatic 9, 3) := by decide +kernel
theorem dL_build_178 : decode cL_build 178 = .ok (.iconst 4, 1) := by decide +kernel
theorem dL_build_179 : decode cL_build 179 = .ok (.ishr, 1) := by decide +kernel
theorem dL_build_180 : decode cL_build 180 = .ok (.iload 4, 2) := by decide +kernel
theorem dL_build_182 : decode cL_build 182 = .ok (.iconst 1, 1) := by decide +kernel
theorem dL_build_183 : decode cL_build 183 = .ok (.iadd, 1) := by decide +kernel
theorem dL_build_184 : decode cL_build 184 = .ok (.invokestatic 15, 3) := by decide +kernel
theorem dL_build_187 : decode cL_build 187 = .ok (.istore 8, 2) := by decide +kernel
theorem dL_build_189 : decode cL_build 189 = .ok (.iconst 0, 1) := by decide +kernel
theorem dL_build_190 : decode cL_build 190 = .ok (.istore 9, 2) := by decide +kernel
theorem dL_build_192 : decode cL_build 192 = .ok (.iload 9, 2) := by decide +kernel
theorem dL_build_194 : decode cL_build 194 = .ok (.iload 8, 2) := by decide +kernel
theorem dL_build_196 : decode cL_build 196 = .ok (.if_icmp .ge 284, 3) := by decide +kernel
theorem dL_build_199 : decode cL_build 199 = .ok (.aload_n 1, 1) := by decide +kernel
theorem dL_build_200 : decode cL_build 200 = .ok (.iload_n 2, 1) := by decide +kernel
theorem dL_build_201 : decode cL_build 201 = .ok (.iconst 4, 1) := by decide +kernel
theorem dL_build_202 : decode cL_build 202 = .ok (.iadd, 1) := by decide +kernel
theorem dL_build_203 : decode cL_build 203 = .ok (.iload 9, 2) := by decide +kernel
theorem dL_build_205 : decode cL_build 205 = .ok (.iconst 4, 1) := by decide +kernel
theorem dL_build_206 : decode cL_build 206 = .ok (.irem, 1) := by decide +kernel
theorem dL_build_207 : decode cL_build 207 = .ok (.iadd, 1) := by decide +kernel
theorem dL_build_208 : decode cL_build 208 = .ok (.invokestatic 9, 3) := by decide +kernel
theorem dL_build_211 : decode cL_build 211 = .ok (.iload 9, 2) := by decide +kernel
theorem dL_build_213 : decode cL_build 213 = .ok (.iconst 4, 1) := by decide +kernel
theorem dL_build_214 : decode cL_build 214 = .ok (.idiv, 1) := by decide +kernel
theorem dL_build_215 : decode cL_build 215 = .ok (.bipush 10, 2) := by decide +kernel
theorem dL_build_217 : decode cL_build 217 = .ok (.imul, 1) := by decide +kernel
theorem dL_build_218 : decode cL_build 218 = .ok (.ishr, 1) := by decide +kernel
theorem dL_build_219 : decode cL_build 219 = .ok (.istore 10, 2) := by decide +kernel
theorem dL_build_221 : decode cL_build 221 = .ok (.bipush 6, 2) := by decide +kernel
theorem dL_build_223 : decode cL_build 223 = .ok (.iload 9, 2) := by decide +kernel
theorem dL_build_225 : decode cL_build 225 = .ok (.imul, 1) := by decide +kernel
theorem dL_build_226 : decode cL_build 226 = .ok (.istore 11, 2) := by decide +kernel
theorem dL_build_228 : decode cL_build 228 = .ok (.aload 6, 2) := by decide +kernel
theorem dL_build_230 : decode cL_build 230 = .ok (.iload 11, 2) := by decide +kernel
theorem dL_build_232 : decode cL_build 232 = .ok (.iload 10, 2) := by decide +kernel
theorem dL_build_234 : decode cL_build 234 = .ok (.iconst 5, 1) := by decide +kernel
theorem dL_build_235 : decode cL_build 235 = .ok (.invokestatic 15, 3) := by decide +kernel
theorem dL_build_238 : decode cL_build 238 = .ok (.iconst 4, 1) := by decide +kernel
theorem dL_build_239 : decode cL_build 239 = .ok (.irem, 1) := by decide +kernel
theorem dL_build_240 : decode cL_build 240 = .ok (.iastore, 1) := by decide +kernel
theorem dL_build_241 : decode cL_build 241 = .ok (.aload 6, 2) := by decide +kernel
theorem dL_build_243 : decode cL_build 243 = .ok (.iload 11, 2) := by decide +kernel
theorem dL_build_245 : decode cL_build 245 = .ok (.iconst 1, 1) := by decide +kernel
theorem dL_build_246 : decode cL_build 246 = .ok (.iadd, 1) := by decide +kernel
theorem dL_build_247 : decode cL_build 247 = .ok (.aload 6, 2) := by decide +kernel
theorem dL_build_249 : decode cL_build 249 = .ok (.iload 11, 2) := by decide +kernel
theorem dL_build_251 : decode cL_build 251 = .ok (.iaload, 1) := by decide +kernel
theorem dL_build_252 : decode cL_build 252 = .ok (.ifCond .ne 17, 3) := by decide +kernel
theorem dL_build_255 : decode cL_build 255 = .ok (.iconst 1, 1) := by decide +kernel
theorem dL_build_256 : decode cL_build 256 = .ok (.iload 10, 2) := by decide +kernel
theorem dL_build_258 : decode cL_build 258 = .ok (.iconst 3, 1) := by decide +kernel
theorem dL_build_259 : decode cL_build 259 = .ok (.ishr, 1) := by decide +kernel
theorem dL_build_260 : decode cL_build 260 = .ok (.bipush 60, 2) := by decide +kernel
theorem dL_build_262 : decode cL_build 262 = .ok (.invokestatic 15, 3) := by decide +kernel
theorem dL_build_265 : decode cL_build 265 = .ok (.iadd, 1) := by decide +kernel
theorem dL_build_266 : decode cL_build 266 = .ok (.goto 50, 3) := by decide +kernel
theorem dL_build_269 : decode cL_build 269 = .ok (.aload 6, 2) := by decide +kernel
theorem dL_build_271 : decode cL_build 271 = .ok (.iload 11, 2) := by decide +kernel
theorem dL_build_273 : decode cL_build 273 = .ok (.iaload, 1) := by decide +kernel
theorem dL_build_274 : decode cL_build 274 = .ok (.iconst 1, 1) := by decide +kernel
theorem dL_build_275 : decode cL_build 275 = .ok (.if_icmp .ne 18, 3) := by decide +kernel
theorem dL_build_278 : decode cL_build 278 = .ok (.iconst 1, 1) := by decide +kernel
theorem dL_build_279 : decode cL_build 279 = .ok (.iload 10, 2) := by decide +kernel
theorem dL_build_281 : decode cL_build 281 = .ok (.iconst 3, 1) := by decide +kernel
theorem dL_build_282 : decode cL_build 282 = .ok (.ishr, 1) := by decide +kernel
theorem dL_build_283 : decode cL_build 283 = .ok (.sipush 700, 3) := by decide +kernel
theorem dL_build_286 : decode cL_build 286 = .ok (.invokestatic 15, 3) := by decide +kernel
theorem dL_build_289 : decode cL_build 289 = .ok (.iadd, 1) := by decide +kernel
theorem dL_build_290 : decode cL_build 290 = .ok (.goto 26, 3) := by decide +kernel
theorem dL_build_293 : decode cL_build 293 = .ok (.aload 6, 2) := by decide +kernel
theorem dL_build_295 : decode cL_build 295 = .ok (.iload 11, 2) := by decide +kernel
theorem dL_build_297 : decode cL_build 297 = .ok (.iaload, 1) := by decide +kernel
theorem dL_build_298 : decode cL_build 298 = .ok (.iconst 2, 1) := by decide +kernel
theorem dL_build_299 : decode cL_build 299 = .ok (.if_icmp .ne 16, 3) := by decide +kernel
theorem dL_build_302 : decode cL_build 302 = .ok (.iconst 2, 1) := by decide +kernel
theorem dL_build_303 : decode cL_build 303 = .ok (.iload 10, 2) := by decide +kernel
theorem dL_build_305 : decode cL_build 305 = .ok (.iconst 3, 1) := by decide +kernel
theorem dL_build_306 : decode cL_build 306 = .ok (.ishr, 1) := by decide +kernel
theorem dL_build_307 : decode cL_build 307 = .ok (.iconst 3, 1) := by decide +kernel
theorem dL_build_308 : decode cL_build 308 = .ok (.invokestatic 15, 3) := by decide +kernel
theorem dL_build_311 : decode cL_build 311 = .ok (.iadd, 1) := by decide +kernel
theorem dL_build_312 : decode cL_build 312 = .ok (.goto 4, 3) := by decide +kernel
theorem dL_build_315 : decode cL_build 315 = .ok (.iconst 0, 1) := by decide +kernel
theorem dL_build_316 : decode cL_build 316 = .ok (.iastore, 1) := by decide +kernel
theorem dL_build_317 : decode cL_build 317 = .ok (.aload 6, 2) := by decide +kernel
theorem dL_build_319 : decode cL_build 319 = .ok (.iload 11, 2) := by decide +kernel
theorem dL_build_321 : decode cL_build 321 = .ok (.iconst 2, 1) := by decide +kernel
theorem dL_build_322 : decode cL_build 322 = .ok (.iadd, 1) := by decide +kernel
theorem dL_build_323 : decode cL_build 323 = .ok (.iload 10, 2) := by decide +kernel
theorem dL_build_325 : decode cL_build 325 = .ok (.iconst 5, 1) := by decide +kernel
theorem dL_build_326 : decode cL_build 326 = .ok (.ishr, 1) := by decide +kernel
theorem dL_build_327 : decode cL_build 327 = .ok (.iconst 2, 1) := by decide +kernel
theorem dL_build_328 : decode cL_build 328 = .ok (.invokestatic 15, 3) := by decide +kernel
theorem dL_build_331 : decode cL_build 331 = .ok (.ifCond .ne 9, 3) := by decide +kernel
theorem dL_build_334 : decode cL_build 334 = .ok (.sipush 255, 3) := by decide +kernel
theorem dL_build_337 : decode cL_build 337 = .ok (.goto 15, 3) := by decide +kernel
theorem dL_build_340 : decode cL_build 340 = .ok (.iconst 1, 1) := by decide +kernel
theorem dL_build_341 : decode cL_build 341 = .ok (.iload 10, 2) := by decide +kernel
theorem dL_build_343 : decode cL_build 343 = .ok (.bipush 6, 2) := by decide +kernel
theorem dL_build_345 : decode cL_build 345 = .ok (.ishr, 1) := by decide +kernel
theorem dL_build_346 : decode cL_build 346 = .ok (.bipush 7, 2) := by decide +kernel
theorem dL_build_348 : decode cL_build 348 = .ok (.invokestatic 15, 3) := by decide +kernel
theorem dL_build_351 : decode cL_build 351 = .ok (.iadd, 1) := by decide +kernel
theorem dL_build_352 : decode cL_build 352 = .ok (.iastore, 1) := by decide +kernel
theorem dL_build_353 : decode cL_build 353 = .ok (.aload 6, 2) := by decide +kernel
theorem dL_build_355 : decode cL_build 355 = .ok (.iload 11, 2) := by decide +kernel
theorem dL_build_357 : decode cL_build 357 = .ok (.iconst 3, 1) := by decide +kernel
theorem dL_build_358 : decode cL_build 358 = .ok (.iadd, 1) := by decide +kernel
theorem dL_build_359 : decode cL_build 359 = .ok (.iload 10, 2) := by decide +kernel
theorem dL_build_361 : decode cL_build 361 = .ok (.bipush 8, 2) := by decide +kernel
theorem dL_build_363 : decode cL_build 363 = .ok (.ishr, 1) := by decide +kernel
theorem dL_build_364 : decode cL_build 364 = .ok (.iconst 2, 1) := by decide +kernel
theorem dL_build_365 : decode cL_build 365 = .ok (.invokestatic 15, 3) := by decide +kernel
theorem dL_build_368 : decode cL_build 368 = .ok (.ifCond .ne 7, 3) := by decide +kernel
theorem dL_build_371 : decode cL_build 371 = .ok (.iconst 0, 1) := by decide +kernel
theorem dL_build_372 : decode cL_build 372 = .ok (.goto 14, 3) := by decide +kernel
theorem dL_build_375 : decode cL_build 375 = .ok (.iload 10, 2) := by decide +kernel
theorem dL_build_377 : decode cL_build 377 = .ok (.bipush 9, 2) := by decide +kernel
theorem dL_build_379 : decode cL_build 379 = .ok (.ishr, 1) := by decide +kernel
theorem dL_build_380 : decode cL_build 380 = .ok (.sipush 900, 3) := by decide +kernel
theorem dL_build_383 : decode cL_build 383 = .ok (.invokestatic 15, 3) := by decide +kernel
theorem dL_build_386 : decode cL_build 386 = .ok (.iastore, 1) := by decide +kernel
theorem dL_build_387 : decode cL_build 387 = .ok (.aload 6, 2) := by decide +kernel
theorem dL_build_389 : decode cL_build 389 = .ok (.iload 11, 2) := by decide +kernel
theorem dL_build_391 : decode cL_build 391 = .ok (.iconst 4, 1) := by decide +kernel
theorem dL_build_392 : decode cL_build 392 = .ok (.iadd, 1) := by decide +kernel
theorem dL_build_393 : decode cL_build 393 = .ok (.iload 10, 2) := by decide +kernel
theorem dL_build_395 : decode cL_build 395 = .ok (.bipush 11, 2) := by decide +kernel
theorem dL_build_397 : decode cL_build 397 = .ok (.ishr, 1) := by decide +kernel
theorem dL_build_398 : decode cL_build 398 = .ok (.iconst 3, 1) := by decide +kernel
theorem dL_build_399 : decode cL_build 399 = .ok (.invokestatic 15, 3) := by decide +kernel
theorem dL_build_402 : decode cL_build 402 = .ok (.ifCond .ne 17, 3) := by decide +kernel
theorem dL_build_405 : decode cL_build 405 = .ok (.iconst 1, 1) := by decide +kernel
theorem dL_build_406 : decode cL_build 406 = .ok (.iload 10, 2) := by decide +kernel
theorem dL_build_408 : decode cL_build 408 = .ok (.bipush 12, 2) := by decide +kernel
theorem dL_build_410 : decode cL_build 410 = .ok (.ishr, 1) := by decide +kernel
theorem dL_build_411 : decode cL_build 411 = .ok (.iconst 3, 1) := by decide +kernel
theorem dL_build_412 : decode cL_build 412 = .ok (.invokestatic 15, 3) := by decide +kernel
theorem dL_build_415 : decode cL_build 415 = .ok (.iadd, 1) := by decide +kernel
theorem dL_build_416 : decode cL_build 416 = .ok (.goto 4, 3) := by decide +kernel
theorem dL_build_419 : decode cL_build 419 = .ok (.iconst 0, 1) := by decide +kernel
theorem dL_build_420 : decode cL_build 420 = .ok (.iastore, 1) := by decide +kernel
theorem dL_build_421 : decode cL_build 421 = .ok (.aload 6, 2) := by decide +kernel
theorem dL_build_423 : decode cL_build 423 = .ok (.iload 11, 2) := by decide +kernel
theorem dL_build_425 : decode cL_build 425 = .ok (.iconst 5, 1) := by decide +kernel
theorem dL_build_426 : decode cL_build 426 = .ok (.iadd, 1) := by decide +kernel
theorem dL_build_427 : decode cL_build 427 = .ok (.bipush 9, 2) := by decide +kernel
theorem dL_build_429 : decode cL_build 429 = .ok (.iastore, 1) := by decide +kernel
theorem dL_build_430 : decode cL_build 430 = .ok (.aload_n 0, 1) := by decide +kernel
theorem dL_build_431 : decode cL_build 431 = .ok (.aload 6, 2) := by decide +kernel
theorem dL_build_433 : decode cL_build 433 = .ok (.iload 11, 2) := by decide +kernel
theorem dL_build_435 : decode cL_build 435 = .ok (.iaload, 1) := by decide +kernel
theorem dL_build_436 : decode cL_build 436 = .ok (.aload 6, 2) := by decide +kernel
theorem dL_build_438 : decode cL_build 438 = .ok (.iload 11, 2) := by decide +kernel
theorem dL_build_440 : decode cL_build 440 = .ok (.iconst 1, 1) := by decide +kernel
theorem dL_build_441 : decode cL_build 441 = .ok (.iadd, 1) := by decide +kernel
theorem dL_build_442 : decode cL_build 442 = .ok (.iaload, 1) := by decide +kernel
theorem dL_build_443 : decode cL_build 443 = .ok (.aload 6, 2) := by decide +kernel
theorem dL_build_445 : decode cL_build 445 = .ok (.iload 11, 2) := by decide +kernel
theorem dL_build_447 : decode cL_build 447 = .ok (.iconst 2, 1) := by decide +kernel
theorem dL_build_448 : decode cL_build 448 = .ok (.iadd, 1) := by decide +kernel
theorem dL_build_449 : decode cL_build 449 = .ok (.iaload, 1) := by decide +kernel
theorem dL_build_450 : decode cL_build 450 = .ok (.aload 6, 2) := by decide +kernel
theorem dL_build_452 : decode cL_build 452 = .ok (.iload 11, 2) := by decide +kernel
theorem dL_build_454 : decode cL_build 454 = .ok (.iconst 3, 1) := by decide +kernel
theorem dL_build_455 : decode cL_build 455 = .ok (.iadd, 1) := by decide +kernel
theorem dL_build_456 : decode cL_build 456 = .ok (.iaload, 1) := by decide +kernel
theorem dL_build_457 : decode cL_build 457 = .ok (.aload 6, 2) := by decide +kernel
theorem dL_build_459 : decode cL_build 459 = .ok (.iload 11, 2) := by decide +kernel
theorem dL_build_461 : decode cL_build 461 = .ok (.iconst 4, 1) := by decide +kernel
theorem dL_build_462 : decode cL_build 462 = .ok (.iadd, 1) := by decide +kernel
theorem dL_build_463 : decode cL_build 463 = .ok (.iaload, 1) := by decide +kernel
theorem dL_build_464 : decode cL_build 464 = .ok (.invokevirtual 27, 3) := by decide +kernel
theorem dL_build_467 : decode cL_build 467 = .ok (.iload 9, 2) := by decide +kernel
theorem dL_build_469 : decode cL_build 469 = .ok (.if_icmp .eq 5, 3) := by decide +kernel
theorem dL_build_472 : decode cL_build 472 = .ok (.aconst_null, 1) := by decide +kernel
theorem dL_build_473 : decode cL_build 473 = .ok (.areturn, 1) := by decide +kernel
theorem dL_build_474 : decode cL_build 474 = .ok (.iinc 9 1, 3) := by decide +kernel
theorem dL_build_477 : decode cL_build 477 = .ok (.goto (-285), 3) := by decide +kernel
theorem dL_build_480 : decode cL_build 480 = .ok (.iconst 2, 1) := by decide +kernel
theorem dL_build_481 : decode cL_build 481 = .ok (.newarray .int, 2) := by decide +kernel
theorem dL_build_483 : decode cL_build 483 = .ok (.dup, 1) := by decide +kernel
theorem dL_build_484 : decode cL_build 484 = .ok (.iconst 0, 1) := by decide +kernel
theorem dL_build_485 : decode cL_build 485 = .ok (.iload 7, 2) := by decide +kernel
theorem dL_build_487 : decode cL_build 487 = .ok (.iastore, 1) := by decide +kernel
theorem dL_build_488 : decode cL_build 488 = .ok (.dup, 1) := by decide +kernel
theorem dL_build_489 : decode cL_build 489 = .ok (.iconst 1, 1) := by decide +kernel
theorem dL_build_490 : decode cL_build 490 = .ok (.iload 8, 2) := by decide +kernel
theorem dL_build_492 : decode cL_build 492 = .ok (.iastore, 1) := by decide +kernel
theorem dL_build_493 : decode cL_build 493 = .ok (.areturn, 1) := by decide +kernel
theorem dL_law_0 : decode cL_law 0 = .ok (.new 20, 3) := by decide +kernel
theorem dL_law_3 : decode cL_law 3 = .ok (.dup, 1) := by decide +kernel
theorem dL_law_4 : decode cL_law 4 = .ok (.invokespecial 55, 3) := by decide +kernel
theorem dL_law_7 : decode cL_law 7 = .ok (.astore_n 1, 1) := by decide +kernel
theorem dL_law_8 : decode cL_law 8 = .ok (.bipush 30, 2) := by decide +kernel
theorem dL_law_10 : decode cL_law 10 = .ok (.newarray .int, 2) := by decide +kernel
theorem dL_law_12 : decode cL_law 12 = .ok (.astore_n 2, 1) := by decide +kernel
theorem dL_law_13 : decode cL_law 13 = .ok (.bipush 48, 2) := by decide +kernel
theorem dL_law_15 : decode cL_law 15 = .ok (.newarray .int, 2) := by decide +kernel
theorem dL_law_17 : decode cL_law 17 = .ok (.astore_n 3, 1) := by decide +kernel
theorem dL_law_18 : decode cL_law 18 = .ok (.aload_n 1, 1) := by decide +kernel
theorem dL_law_19 : decode cL_law 19 = .ok (.aload_n 0, 1) := by decide +kernel
theorem dL_law_20 : decode cL_law 20 = .ok (.iconst 0, 1) := by decide +kernel
theorem dL_law_21 : decode cL_law 21 = .ok (.iconst 5, 1) := by decide +kernel
theorem dL_law_22 : decode cL_law 22 = .ok (.iconst 5, 1) := by decide +kernel
theorem dL_law_23 : decode cL_law 23 = .ok (.aload_n 2, 1) := by decide +kernel
theorem dL_law_24 : decode cL_law 24 = .ok (.aload_n 3, 1) := by decide +kernel
theorem dL_law_25 : decode cL_law 25 = .ok (.invokestatic 56, 3) := by decide +kernel
theorem dL_law_28 : decode cL_law 28 = .ok (.astore 4, 2) := by decide +kernel
theorem dL_law_30 : decode cL_law 30 = .ok (.aload 4, 2) := by decide +kernel
theorem dL_law_32 : decode cL_law 32 = .ok (.ifnonnull 5, 3) := by decide +kernel
theorem dL_law_35 : decode cL_law 35 = .ok (.iconst 0, 1) := by decide +kernel
theorem dL_law_36 : decode cL_law 36 = .ok (.ireturn, 1) := by decide +kernel
theorem dL_law_37 : decode cL_law 37 = .ok (.aload_n 1, 1) := by decide +kernel
theorem dL_law_38 : decode cL_law 38 = .ok (.aload_n 0, 1) := by decide +kernel
theorem dL_law_39 : decode cL_law 39 = .ok (.bipush 8, 2) := by decide +kernel
theorem dL_law_41 : decode cL_law 41 = .ok (.invokestatic 9, 3) := by decide +kernel
theorem dL_law_44 : decode cL_law 44 = .ok (.sipush 400, 3) := by decide +kernel
theorem dL_law_47 : decode cL_law 47 = .ok (.invokestatic 15, 3) := by decide +kernel
theorem dL_law_50 : decode cL_law 50 = .ok (.aload_n 0, 1) := by decide +kernel
theorem dL_law_51 : decode cL_law 51 = .ok (.bipush 8, 2) := by decide +kernel
theorem dL_law_53 : decode cL_law 53 = .ok (.invokestatic 9, 3) := by decide +kernel
theorem dL_law_56 : decode cL_law 56 = .ok (.iconst 5, 1) := by decide +kernel
theorem dL_law_57 : decode cL_law 57 = .ok (.ishr, 1) := by decide +kernel
theorem dL_law_58 : decode cL_law 58 = .ok (.sipush 2500, 3) := by decide +kernel
theorem dL_law_61 : decode cL_law 61 = .ok (.invokestatic 15, 3) := by decide +kernel
theorem dL_law_64 : decode cL_law 64 = .ok (.invokevirtual 60, 3) := by decide +kernel
theorem dL_law_67 : decode cL_law 67 = .ok (.pop, 1) := by decide +kernel
theorem dL_law_68 : decode cL_law 68 = .ok (.aload_n 1, 1) := by decide +kernel
theorem dL_law_69 : decode cL_law 69 = .ok (.invokevirtual 63, 3) := by decide +kernel
theorem dL_law_72 : decode cL_law 72 = .ok (.istore 5, 2) := by decide +kernel
theorem dL_law_74 : decode cL_law 74 = .ok (.aload_n 1, 1) := by decide +kernel
theorem dL_law_75 : decode cL_law 75 = .ok (.iload 5, 2) := by decide +kernel
theorem dL_law_77 : decode cL_law 77 = .ok (.invokevirtual 67, 3) := by decide +kernel
theorem dL_law_80 : decode cL_law 80 = .ok (.istore 6, 2) := by decide +kernel
theorem dL_law_82 : decode cL_law 82 = .ok (.iconst 0, 1) := by decide +kernel
theorem dL_law_83 : decode cL_law 83 = .ok (.istore 7, 2) := by decide +kernel
theorem dL_law_85 : decode cL_law 85 = .ok (.iload 7, 2) := by decide +kernel
theorem dL_law_87 : decode cL_law 87 = .ok (.iconst 1, 1) := by decide +kernel
theorem dL_law_88 : decode cL_law 88 = .ok (.aload 4, 2) := by decide +kernel
theorem dL_law_90 : decode cL_law 90 = .ok (.iconst 1, 1) := by decide +kernel
theorem dL_law_91 : decode cL_law 91 = .ok (.iaload, 1) := by decide +kernel
theorem dL_law_92 : decode cL_law 92 = .ok (.ishl, 1) := by decide +kernel
theorem dL_law_93 : decode cL_law 93 = .ok (.if_icmp .ge 104, 3) := by decide +kernel
theorem dL_law_96 : decode cL_law 96 = .ok (.aload_n 1, 1) := by decide +kernel
theorem dL_law_97 : decode cL_law 97 = .ok (.iload 7, 2) := by decide +kernel
theorem dL_law_99 : decode cL_law 99 = .ok (.invokevirtual 71, 3) := by decide +kernel
theorem dL_law_102 : decode cL_law 102 = .ok (.ifCond .ne 6, 3) := by decide +kernel
theorem dL_law_105 : decode cL_law 105 = .ok (.goto 86, 3) := by decide +kernel
theorem dL_law_108 : decode cL_law 108 = .ok (.aload_n 1, 1) := by decide +kernel
theorem dL_law_109 : decode cL_law 109 = .ok (.iload 7, 2) := by decide +kernel
theorem dL_law_111 : decode cL_law 111 = .ok (.invokevirtual 67, 3) := by decide +kernel
theorem dL_law_114 : decode cL_law 114 = .ok (.istore 8, 2) := by decide +kernel
theorem dL_law_116 : decode cL_law 116 = .ok (.iload 8, 2) := by decide +kernel
theorem dL_law_118 : decode cL_law 118 = .ok (.iload 6, 2) := by decide +kernel
theorem dL_law_120 : decode cL_law 120 = .ok (.if_icmp .lt 43, 3) := by decide +kernel
theorem dL_law_123 : decode cL_law 123 = .ok (.iload 8, 2) := by decide +kernel
theorem dL_law_125 : decode cL_law 125 = .ok (.iload 6, 2) := by decide +kernel
theorem dL_law_127 : decode cL_law 127 = .ok (.if_icmp .ne 38, 3) := by decide +kernel
theorem dL_law_130 : decode cL_law 130 = .ok (.iload 7, 2) := by decide +kernel
theorem dL_law_132 : decode cL_law 132 = .ok (.invokestatic 75, 3) := by decide +kernel
theorem dL_law_135 : decode cL_law 135 = .ok (.iload 5, 2) := by decide +kernel
theorem dL_law_137 : decode cL_law 137 = .ok (.invokestatic 75, 3) := by decide +kernel
theorem dL_law_140 : decode cL_law 140 = .ok (.if_icmp .lt 23, 3) := by decide +kernel
theorem dL_law_143 : decode cL_law 143 = .ok (.iload 7, 2) := by decide +kernel
theorem dL_law_145 : decode cL_law 145 = .ok (.invokestatic 75, 3) := by decide +kernel
theorem dL_law_148 : decode cL_law 148 = .ok (.iload 5, 2) := by decide +kernel
theorem dL_law_150 : decode cL_law 150 = .ok (.invokestatic 75, 3) := by decide +kernel
theorem dL_law_153 : decode cL_law 153 = .ok (.if_icmp .ne 12, 3) := by decide +kernel
theorem dL_law_156 : decode cL_law 156 = .ok (.iload 7, 2) := by decide +kernel
theorem dL_law_158 : decode cL_law 158 = .ok (.iload 5, 2) := by decide +kernel
theorem dL_law_160 : decode cL_law 160 = .ok (.if_icmp .ge 5, 3) := by decide +kernel
theorem dL_law_163 : decode cL_law 163 = .ok (.iconst 0, 1) := by decide +kernel
theorem dL_law_164 : decode cL_law 164 = .ok (.ireturn, 1) := by decide +kernel
theorem dL_law_165 : decode cL_law 165 = .ok (.aload_n 1, 1) := by decide +kernel
theorem dL_law_166 : decode cL_law 166 = .ok (.iload 7, 2) := by decide +kernel
theorem dL_law_168 : decode cL_law 168 = .ok (.invokevirtual 80, 3) := by decide +kernel
theorem dL_law_171 : decode cL_law 171 = .ok (.aload_n 1, 1) := by decide +kernel
theorem dL_law_172 : decode cL_law 172 = .ok (.invokevirtual 83, 3) := by decide +kernel
theorem dL_law_175 : decode cL_law 175 = .ok (.if_icmp .gt 14, 3) := by decide +kernel
theorem dL_law_178 : decode cL_law 178 = .ok (.iload 8, 2) := by decide +kernel
theorem dL_law_180 : decode cL_law 180 = .ok (.aload_n 1, 1) := by decide +kernel
theorem dL_law_181 : decode cL_law 181 = .ok (.iload 7, 2) := by decide +kernel
theorem dL_law_183 : decode cL_law 183 = .ok (.invokevirtual 80, 3) := by decide +kernel
theorem dL_law_186 : decode cL_law 186 = .ok (.if_icmp .ge 5, 3) := by decide +kernel
theorem dL_law_189 : decode cL_law 189 = .ok (.iconst 0, 1) := by decide +kernel
theorem dL_law_190 : decode cL_law 190 = .ok (.ireturn, 1) := by decide +kernel
theorem dL_law_191 : decode cL_law 191 = .ok (.iinc 7 1, 3) := by decide +kernel
theorem dL_law_194 : decode cL_law 194 = .ok (.goto (-109), 3) := by decide +kernel
theorem dL_law_197 : decode cL_law 197 = .ok (.iload 6, 2) := by decide +kernel
theorem dL_law_199 : decode cL_law 199 = .ok (.aload_n 1, 1) := by decide +kernel
theorem dL_law_200 : decode cL_law 200 = .ok (.iconst 0, 1) := by decide +kernel
theorem dL_law_201 : decode cL_law 201 = .ok (.invokevirtual 67, 3) := by decide +kernel
theorem dL_law_204 : decode cL_law 204 = .ok (.if_icmp .le 5, 3) := by decide +kernel
theorem dL_law_207 : decode cL_law 207 = .ok (.iconst 0, 1) := by decide +kernel
theorem dL_law_208 : decode cL_law 208 = .ok (.ireturn, 1) := by decide +kernel
theorem dL_law_209 : decode cL_law 209 = .ok (.aload_n 1, 1) := by decide +kernel
theorem dL_law_210 : decode cL_law 210 = .ok (.invokevirtual 83, 3) := by decide +kernel
theorem dL_law_213 : decode cL_law 213 = .ok (.istore 7, 2) := by decide +kernel
theorem dL_law_215 : decode cL_law 215 = .ok (.iload 7, 2) := by decide +kernel
theorem dL_law_217 : decode cL_law 217 = .ok (.ifCond .ne 5, 3) := by decide +kernel
theorem dL_law_220 : decode cL_law 220 = .ok (.iconst 1, 1) := by decide +kernel
theorem dL_law_221 : decode cL_law 221 = .ok (.ireturn, 1) := by decide +kernel
theorem dL_law_222 : decode cL_law 222 = .ok (.aload_n 1, 1) := by decide +kernel
theorem dL_law_223 : decode cL_law 223 = .ok (.iload 5, 2) := by decide +kernel
theorem dL_law_225 : decode cL_law 225 = .ok (.invokevirtual 80, 3) := by decide +kernel
theorem dL_law_228 : decode cL_law 228 = .ok (.istore 8, 2) := by decide +kernel
theorem dL_law_230 : decode cL_law 230 = .ok (.iload 6, 2) := by decide +kernel
theorem dL_law_232 : decode cL_law 232 = .ok (.iload 8, 2) := by decide +kernel
theorem dL_law_234 : decode cL_law 234 = .ok (.isub, 1) := by decide +kernel
theorem dL_law_235 : decode cL_law 235 = .ok (.istore 9, 2) := by decide +kernel
theorem dL_law_237 : decode cL_law 237 = .ok (.aload_n 1, 1) := by decide +kernel
theorem dL_law_238 : decode cL_law 238 = .ok (.iload 5, 2) := by decide +kernel
theorem dL_law_240 : decode cL_law 240 = .ok (.invokevirtual 86, 3) := by decide +kernel
theorem dL_law_243 : decode cL_law 243 = .ok (.ifCond .ne 47, 3) := by decide +kernel
theorem dL_law_246 : decode cL_law 246 = .ok (.aload_n 1, 1) := by decide +kernel
theorem dL_law_247 : decode cL_law 247 = .ok (.iconst 0, 1) := by decide +kernel
theorem dL_law_248 : decode cL_law 248 = .ok (.iconst 0, 1) := by decide +kernel
theorem dL_law_249 : decode cL_law 249 = .ok (.invokevirtual 89, 3) := by decide +kernel
theorem dL_law_252 : decode cL_law 252 = .ok (.iload 8, 2) := by decide +kernel
theorem dL_law_254 : decode cL_law 254 = .ok (.if_icmp .ne 36, 3) := by decide +kernel
theorem dL_law_257 : decode cL_law 257 = .ok (.aload_n 1, 1) := by decide +kernel
theorem dL_law_258 : decode cL_law 258 = .ok (.iconst 0, 1) := by decide +kernel
theorem dL_law_259 : decode cL_law 259 = .ok (.iconst 1, 1) := by decide +kernel
theorem dL_law_260 : decode cL_law 260 = .ok (.invokevirtual 89, 3) := by decide +kernel
theorem dL_law_263 : decode cL_law 263 = .ok (.iload 9, 2) := by decide +kernel
theorem dL_law_265 : decode cL_law 265 = .ok (.if_icmp .ne 25, 3) := by decide +kernel
theorem dL_law_268 : decode cL_law 268 = .ok (.aload_n 1, 1) := by decide +kernel
theorem dL_law_269 : decode cL_law 269 = .ok (.iconst 0, 1) := by decide +kernel
theorem dL_law_270 : decode cL_law 270 = .ok (.iconst 2, 1) := by decide +kernel
theorem dL_law_271 : decode cL_law 271 = .ok (.invokevirtual 89, 3) := by decide +kernel
theorem dL_law_274 : decode cL_law 274 = .ok (.iload 5, 2) := by decide +kernel
theorem dL_law_276 : decode cL_law 276 = .ok (.if_icmp .ne 14, 3) := by decide +kernel
theorem dL_law_279 : decode cL_law 279 = .ok (.aload_n 1, 1) := by decide +kernel
theorem dL_law_280 : decode cL_law 280 = .ok (.iconst 0, 1) := by decide +kernel
theorem dL_law_281 : decode cL_law 281 = .ok (.iconst 4, 1) := by decide +kernel
theorem dL_law_282 : decode cL_law 282 = .ok (.invokevirtual 89, 3) := by decide +kernel
theorem dL_law_285 : decode cL_law 285 = .ok (.iload 7, 2) := by decide +kernel
theorem dL_law_287 : decode cL_law 287 = .ok (.if_icmp .eq 5, 3) := by decide +kernel
theorem dL_law_290 : decode cL_law 290 = .ok (.iconst 0, 1) := by decide +kernel
theorem dL_law_291 : decode cL_law 291 = .ok (.ireturn, 1) := by decide +kernel
theorem dL_law_292 : decode cL_law 292 = .ok (.iconst 0, 1) := by decide +kernel
theorem dL_law_293 : decode cL_law 293 = .ok (.istore 10, 2) := by decide +kernel
theorem dL_law_295 : decode cL_law 295 = .ok (.aload_n 1, 1) := by decide +kernel
theorem dL_law_296 : decode cL_law 296 = .ok (.iconst 0, 1) := by decide +kernel
theorem dL_law_297 : decode cL_law 297 = .ok (.iconst 3, 1) := by decide +kernel
theorem dL_law_298 : decode cL_law 298 = .ok (.invokevirtual 89, 3) := by decide +kernel
theorem dL_law_301 : decode cL_law 301 = .ok (.istore 11, 2) := by decide +kernel
theorem dL_law_303 : decode cL_law 303 = .ok (.iconst 0, 1) := by decide +kernel
theorem dL_law_304 : decode cL_law 304 = .ok (.istore 12, 2) := by decide +kernel
theorem dL_law_306 : decode cL_law 306 = .ok (.iload 11, 2) := by decide +kernel
theorem dL_law_308 : decode cL_law 308 = .ok (.ifCond .le 151, 3) := by decide +kernel
theorem dL_law_311 : decode cL_law 311 = .ok (.aload_n 0, 1) := by decide +kernel
theorem dL_law_312 : decode cL_law 312 = .ok (.bipush 9, 2) := by decide +kernel
theorem dL_law_314 : decode cL_law 314 = .ok (.iload 12, 2) := by decide +kernel
theorem dL_law_316 : decode cL_law 316 = .ok (.bipush 7, 2) := by decide +kernel
theorem dL_law_318 : decode cL_law 318 = .ok (.irem, 1) := by decide +kernel
theorem dL_law_319 : decode cL_law 319 = .ok (.iadd, 1) := by decide +kernel
theorem dL_law_320 : decode cL_law 320 = .ok (.invokestatic 9, 3) := by decide +kernel
theorem dL_law_323 : decode cL_law 323 = .ok (.iload 12, 2) := by decide +kernel
theorem dL_law_325 : decode cL_law 325 = .ok (.bipush 7, 2) := by decide +kernel
theorem dL_law_327 : decode cL_law 327 = .ok (.idiv, 1) := by decide +kernel
theorem dL_law_328 : decode cL_law 328 = .ok (.iconst 3, 1) := by decide +kernel
theorem dL_law_329 : decode cL_law 329 = .ok (.imul, 1) := by decide +kernel
theorem dL_law_330 : decode cL_law 330 = .ok (.ishr, 1) := by decide +kernel
theorem dL_law_331 : decode cL_law 331 = .ok (.aload 4, 2) := by decide +kernel
theorem dL_law_333 : decode cL_law 333 = .ok (.iconst 0, 1) := by decide +kernel
theorem dL_law_334 : decode cL_law 334 = .ok (.iaload, 1) := by decide +kernel
theorem dL_law_335 : decode cL_law 335 = .ok (.invokestatic 15, 3) := by decide +kernel
theorem dL_law_338 : decode cL_law 338 = .ok (.istore 13, 2) := by decide +kernel
theorem dL_law_340 : decode cL_law 340 = .ok (.aload_n 1, 1) := by decide +kernel
theorem dL_law_341 : decode cL_law 341 = .ok (.iconst 0, 1) := by decide +kernel
theorem dL_law_342 : decode cL_law 342 = .ok (.iload 13, 2) := by decide +kernel
theorem dL_law_344 : decode cL_law 344 = .ok (.invokevirtual 92, 3) := by decide +kernel
theorem dL_law_347 : decode cL_law 347 = .ok (.ifCond .ne 17, 3) := by decide +kernel
theorem dL_law_350 : decode cL_law 350 = .ok (.iload 13, 2) := by decide +kernel
theorem dL_law_352 : decode cL_law 352 = .ok (.iconst 1, 1) := by decide +kernel
theorem dL_law_353 : decode cL_law 353 = .ok (.iadd, 1) := by decide +kernel
theorem dL_law_354 : decode cL_law 354 = .ok (.aload 4, 2) := by decide +kernel
theorem dL_law_356 : decode cL_law 356 = .ok (.iconst 0, 1) := by decide +kernel
theorem dL_law_357 : decode cL_law 357 = .ok (.iaload, 1) := by decide +kernel
theorem dL_law_358 : decode cL_law 358 = .ok (.irem, 1) := by decide +kernel
theorem dL_law_359 : decode cL_law 359 = .ok (.istore 13, 2) := by decide +kernel
theorem dL_law_361 : decode cL_law 361 = .ok (.goto (-21), 3) := by decide +kernel
theorem dL_law_364 : decode cL_law 364 = .ok (.aload_n 1, 1) := by decide +kernel
theorem dL_law_365 : decode cL_law 365 = .ok (.iconst 0, 1) := by decide +kernel
theorem dL_law_366 : decode cL_law 366 = .ok (.iconst 0, 1) := by decide +kernel
theorem dL_law_367 : decode cL_law 367 = .ok (.invokevirtual 89, 3) := by decide +kernel
theorem dL_law_370 : decode cL_law 370 = .ok (.istore 14, 2) := by decide +kernel
theorem dL_law_372 : decode cL_law 372 = .ok (.aload_n 1, 1) := by decide +kernel
theorem dL_law_373 : decode cL_law 373 = .ok (.iconst 0, 1) := by decide +kernel
theorem dL_law_374 : decode cL_law 374 = .ok (.iconst 2, 1) := by decide +kernel
theorem dL_law_375 : decode cL_law 375 = .ok (.invokevirtual 89, 3) := by decide +kernel
theorem dL_law_378 : decode cL_law 378 = .ok (.istore 15, 2) := by decide +kernel
theorem dL_law_380 : decode cL_law 380 = .ok (.aload_n 1, 1) := by decide +kernel
theorem dL_law_381 : decode cL_law 381 = .ok (.iconst 0, 1) := by decide +kernel
theorem dL_law_382 : decode cL_law 382 = .ok (.iload 13, 2) := by decide +kernel
theorem dL_law_384 : decode cL_law 384 = .ok (.iconst 1, 1) := by decide +kernel
theorem dL_law_385 : decode cL_law 385 = .ok (.invokevirtual 95, 3) := by decide +kernel
theorem dL_law_388 : decode cL_law 388 = .ok (.istore 16, 2) := by decide +kernel
theorem dL_law_390 : decode cL_law 390 = .ok (.iload 10, 2) := by decide +kernel
theorem dL_law_392 : decode cL_law 392 = .ok (.iload 16, 2) := by decide +kernel
theorem dL_law_394 : decode cL_law 394 = .ok (.iadd, 1) := by decide +kernel
theorem dL_law_395 : decode cL_law 395 = .ok (.istore 10, 2) := by decide +kernel
theorem dL_law_397 : decode cL_law 397 = .ok (.iinc 11 (-1), 3) := by decide +kernel
theorem dL_law_400 : decode cL_law 400 = .ok (.iload 16, 2) := by decide +kernel
theorem dL_law_402 : decode cL_law 402 = .ok (.ifCond .lt 49, 3) := by decide +kernel
theorem dL_law_405 : decode cL_law 405 = .ok (.iload 16, 2) := by decide +kernel
theorem dL_law_407 : decode cL_law 407 = .ok (.iload 14, 2) := by decide +kernel
theorem dL_law_409 : decode cL_law 409 = .ok (.if_icmp .gt 42, 3) := by decide +kernel
theorem dL_law_412 : decode cL_law 412 = .ok (.aload_n 1, 1) := by decide +kernel
theorem dL_law_413 : decode cL_law 413 = .ok (.iconst 0, 1) := by decide +kernel
theorem dL_law_414 : decode cL_law 414 = .ok (.iconst 0, 1) := by decide +kernel
theorem dL_law_415 : decode cL_law 415 = .ok (.invokevirtual 89, 3) := by decide +kernel
theorem dL_law_418 : decode cL_law 418 = .ok (.iload 14, 2) := by decide +kernel
theorem dL_law_420 : decode cL_law 420 = .ok (.iload 16, 2) := by decide +kernel
theorem dL_law_422 : decode cL_law 422 = .ok (.isub, 1) := by decide +kernel
theorem dL_law_423 : decode cL_law 423 = .ok (.if_icmp .ne 28, 3) := by decide +kernel
theorem dL_law_426 : decode cL_law 426 = .ok (.aload_n 1, 1) := by decide +kernel
theorem dL_law_427 : decode cL_law 427 = .ok (.iconst 0, 1) := by decide +kernel
theorem dL_law_428 : decode cL_law 428 = .ok (.iconst 3, 1) := by decide +kernel
theorem dL_law_429 : decode cL_law 429 = .ok (.invokevirtual 89, 3) := by decide +kernel
theorem dL_law_432 : decode cL_law 432 = .ok (.iload 11, 2) := by decide +kernel
theorem dL_law_434 : decode cL_law 434 = .ok (.if_icmp .ne 17, 3) := by decide +kernel
theorem dL_law_437 : decode cL_law 437 = .ok (.aload_n 1, 1) := by decide +kernel
theorem dL_law_438 : decode cL_law 438 = .ok (.iconst 0, 1) := by decide +kernel
theorem dL_law_439 : decode cL_law 439 = .ok (.iconst 2, 1) := by decide +kernel
theorem dL_law_440 : decode cL_law 440 = .ok (.invokevirtual 89, 3) := by decide +kernel
theorem dL_law_443 : decode cL_law 443 = .ok (.iload 15, 2) := by decide +kernel
theorem dL_law_445 : decode cL_law 445 = .ok (.iconst (-1), 1) := by decide +kernel
theorem dL_law_446 : decode cL_law 446 = .ok (.ixor, 1) := by decide +kernel
theorem dL_law_447 : decode cL_law 447 = .ok (.iand, 1) := by decide +kernel
theorem dL_law_448 : decode cL_law 448 = .ok (.ifCond .eq 5, 3) := by decide +kernel
theorem dL_law_451 : decode cL_law 451 = .ok (.iconst 0, 1) := by decide +kernel
theorem dL_law_452 : decode cL_law 452 = .ok (.ireturn, 1) := by decide +kernel
theorem dL_law_453 : decode cL_law 453 = .ok (.iinc 12 1, 3) := by decide +kernel
theorem dL_law_456 : decode cL_law 456 = .ok (.goto (-150), 3) := by decide +kernel
theorem dL_law_459 : decode cL_law 459 = .ok (.iload 10, 2) := by decide +kernel
theorem dL_law_461 : decode cL_law 461 = .ok (.iload 8, 2) := by decide +kernel
theorem dL_law_463 : decode cL_law 463 = .ok (.if_icmp .ne 45, 3) := by decide +kernel
theorem dL_law_466 : decode cL_law 466 = .ok (.aload_n 1, 1) := by decide +kernel
theorem dL_law_467 : decode cL_law 467 = .ok (.iconst 0, 1) := by decide +kernel
theorem dL_law_468 : decode cL_law 468 = .ok (.iconst 0, 1) := by decide +kernel
theorem dL_law_469 : decode cL_law 469 = .ok (.invokevirtual 89, 3) := by decide +kernel
theorem dL_law_472 : decode cL_law 472 = .ok (.ifCond .ne 36, 3) := by decide +kernel
theorem dL_law_475 : decode cL_law 475 = .ok (.aload_n 1, 1) := by decide +kernel
theorem dL_law_476 : decode cL_law 476 = .ok (.iconst 0, 1) := by decide +kernel
theorem dL_law_477 : decode cL_law 477 = .ok (.iconst 1, 1) := by decide +kernel
theorem dL_law_478 : decode cL_law 478 = .ok (.invokevirtual 89, 3) := by decide +kernel
theorem dL_law_481 : decode cL_law 481 = .ok (.iload 9, 2) := by decide +kernel
theorem dL_law_483 : decode cL_law 483 = .ok (.if_icmp .ne 25, 3) := by decide +kernel
theorem dL_law_486 : decode cL_law 486 = .ok (.aload_n 1, 1) := by decide +kernel
theorem dL_law_487 : decode cL_law 487 = .ok (.iconst 0, 1) := by decide +kernel
theorem dL_law_488 : decode cL_law 488 = .ok (.iconst 2, 1) := by decide +kernel
theorem dL_law_489 : decode cL_law 489 = .ok (.invokevirtual 89, 3) := by decide +kernel
theorem dL_law_492 : decode cL_law 492 = .ok (.ifCond .ne 16, 3) := by decide +kernel
theorem dL_law_495 : decode cL_law 495 = .ok (.aload_n 1, 1) := by decide +kernel
theorem dL_law_496 : decode cL_law 496 = .ok (.iconst 0, 1) := by decide +kernel
theorem dL_law_497 : decode cL_law 497 = .ok (.iconst 4, 1) := by decide +kernel
theorem dL_law_498 : decode cL_law 498 = .ok (.invokevirtual 89, 3) := by decide +kernel
theorem dL_law_501 : decode cL_law 501 = .ok (.ifCond .ne 7, 3) := by decide +kernel
theorem dL_law_504 : decode cL_law 504 = .ok (.iconst 1, 1) := by decide +kernel
theorem dL_law_505 : decode cL_law 505 = .ok (.goto 4, 3) := by decide +kernel
theorem dL_law_508 : decode cL_law 508 = .ok (.iconst 0, 1) := by decide +kernel
theorem dL_law_509 : decode cL_law 509 = .ok (.ireturn, 1) := by decide +kernel
end
section
/-! ===== the desk's memory: 90 cells at one base, in the order of their making; every int that is held is a number of Nat ===== -/
abbrev dkCl : List vw_C := [(RX0, TX0, 6), (RX1, TX1, 3), (RX2, TX2, 4), (RX3, TX3, 5), (RX4, TX4, 5), (RX5, TX5, 10)]
/-- the ids of classes, the layout; the ids of int[], Coupon[], Order[], int[][]; the base -/
abbrev dG : Type := va_G × (ClassId × ClassId × ClassId × ClassId) × Nat
def ra (G : dG) (i : Nat) : Nat := G.2.2 + i
/-- what the cells hold: cell, place -/
abbrev Mm : Type := Nat → Nat → Nat
def aI (G : dG) (n : Nat) (r : Nat → Nat) : va_E := .inl (G.2.1.1, n, .inl (fun j => nI (r j)))
def aR (c : ClassId) (n : Nat) (f : Nat → Nat) : va_E := .inl (c, n, .inr (.inr (.inr (.inr (fun j => some (f j))))))
/-- 0 the desk; 1 the basket (2 prices, 3 categories, 4 counts); 5 coupons, 6 orders; 7 the tray (8 articles, 9 categories, 10 rests (11 to 19 the rows), 20 ranking); 21 the search; 22 to 29 the coupons; 30 + 5 k an order, its lot behind it (and its three rows) -/
def dE (G : dG) (i : Nat) (r : Nat → Nat) : va_E :=
  if i = 0 then .inr (5, [.ref (ra G 1), .ref (ra G 5), .ref (ra G 6), .ref (ra G 7), .ref (ra G 21), .int (nI (r 5)), .int (nI (r 6)), .int (nI (r 7)), .int (nI (r 8)), .int (nI (r 9))])
  else if i = 1 then .inr (1, [.ref (ra G 2), .ref (ra G 3), .ref (ra G 4)])
  else if i < 5 then aI G 10 r
  else if i = 5 then aR G.2.1.2.1 8 (fun j => ra G (22 + j))
  else if i = 6 then aR G.2.1.2.2.1 12 (fun j => ra G (30 + 5 * j))
  else if i = 7 then .inr (4, [.ref (ra G 8), .ref (ra G 9), .ref (ra G 10), .ref (ra G 20), .int (nI (r 4))])
  else if i < 10 then aI G 60 r
  else if i = 10 then aR G.2.1.2.2.2 9 (fun j => ra G (11 + j))
  else if i < 21 then aI G 60 r
  else if i = 21 then .inr (3, [.int (nI (r 0)), .int (nI (r 1)), .int (nI (r 2)), .int (nI (r 3)), .int (nI (r 4))])
  else if i < 30 then .inr (0, [.int (nI (r 0)), .int (nI (r 1)), .int (nI (r 2)), .int (nI (r 3)), .int (nI (r 4)), .int (nI (r 5))])
  else if (i - 30) % 5 = 0 then .inr (2, [.ref (ra G (i + 1)), .int (nI (r 1)), .int (nI (r 2)), .int (nI (r 3))])
  else if (i - 30) % 5 = 1 then .inr (1, [.ref (ra G (i + 1)), .ref (ra G (i + 2)), .ref (ra G (i + 3))])
  else aI G 10 r
/-- a lot's cell -/
def lotB (L : Nat) : Prop := L = 1 ∨ ∃ k, k < 12 ∧ L = 31 + 5 * k
theorem lotB.lt {L : Nat} (h : lotB L) : L + 3 < 90 := by
  rcases h with rfl | ⟨k, hk, rfl⟩ <;> omega
theorem lotB_1 : lotB 1 := Or.inl rfl
theorem lotB_o {k : Nat} (h : k < 12) : lotB (31 + 5 * k) := Or.inr ⟨k, h, rfl⟩
theorem dE_desk (G : dG) (r : Nat → Nat) : dE G 0 r = .inr (5, [.ref (ra G 1), .ref (ra G 5), .ref (ra G 6), .ref (ra G 7), .ref (ra G 21), .int (nI (r 5)), .int (nI (r 6)), .int (nI (r 7)), .int (nI (r 8)), .int (nI (r 9))]) := rfl
theorem dE_lot {L : Nat} (h : lotB L) (G : dG) (r : Nat → Nat) : dE G L r = .inr (1, [.ref (ra G (L + 1)), .ref (ra G (L + 2)), .ref (ra G (L + 3))]) := by
  rcases h with rfl | ⟨k, hk, rfl⟩
  · rfl
  · unfold dE
    rw [if_neg (by omega), if_neg (by omega), if_neg (by omega), if_neg (by omega), if_neg (by omega), if_neg (by omega), if_neg (by omega), if_neg (by omega), if_neg (by omega), if_neg (by omega), if_neg (by omega), if_neg (by omega), if_pos (by omega)]
theorem dE_lotA {L c : Nat} (h : lotB L) (h1 : 1 ≤ c) (h2 : c ≤ 3) (G : dG) (r : Nat → Nat) : dE G (L + c) r = aI G 10 r := by
  rcases h with rfl | ⟨k, hk, rfl⟩
  · unfold dE
    rw [if_neg (by omega), if_neg (by omega), if_pos (by omega)]
  · unfold dE
    rw [if_neg (by omega), if_neg (by omega), if_neg (by omega), if_neg (by omega), if_neg (by omega), if_neg (by omega), if_neg (by omega), if_neg (by omega), if_neg (by omega), if_neg (by omega), if_neg (by omega), if_neg (by omega), if_neg (by omega)]
theorem dE_coupons (G : dG) (r : Nat → Nat) : dE G 5 r = aR G.2.1.2.1 8 (fun j => ra G (22 + j)) := rfl
theorem dE_orders (G : dG) (r : Nat → Nat) : dE G 6 r = aR G.2.1.2.2.1 12 (fun j => ra G (30 + 5 * j)) := rfl
theorem dE_tray (G : dG) (r : Nat → Nat) : dE G 7 r = .inr (4, [.ref (ra G 8), .ref (ra G 9), .ref (ra G 10), .ref (ra G 20), .int (nI (r 4))]) := rfl
theorem dE_tA (G : dG) (r : Nat → Nat) : dE G 8 r = aI G 60 r := rfl
theorem dE_tC (G : dG) (r : Nat → Nat) : dE G 9 r = aI G 60 r := rfl
theorem dE_tR (G : dG) (r : Nat → Nat) : dE G 10 r = aR G.2.1.2.2.2 9 (fun j => ra G (11 + j)) := rfl
theorem dE_tK (G : dG) (r : Nat → Nat) : dE G 20 r = aI G 60 r := rfl
theorem dE_row {q : Nat} (h : q < 9) (G : dG) (r : Nat → Nat) : dE G (11 + q) r = aI G 60 r := by
  unfold dE
  rw [if_neg (by omega), if_neg (by omega), if_neg (by omega), if_neg (by omega), if_neg (by omega), if_neg (by omega), if_neg (by omega), if_neg (by omega), if_pos (by omega)]
theorem dE_search (G : dG) (r : Nat → Nat) : dE G 21 r = .inr (3, [.int (nI (r 0)), .int (nI (r 1)), .int (nI (r 2)), .int (nI (r 3)), .int (nI (r 4))]) := rfl
theorem dE_cou {k : Nat} (h : k < 8) (G : dG) (r : Nat → Nat) : dE G (22 + k) r = .inr (0, [.int (nI (r 0)), .int (nI (r 1)), .int (nI (r 2)), .int (nI (r 3)), .int (nI (r 4)), .int (nI (r 5))]) := by
  unfold dE
  rw [if_neg (by omega), if_neg (by omega), if_neg (by omega), if_neg (by omega), if_neg (by omega), if_neg (by omega), if_neg (by omega), if_neg (by omega), if_neg (by omega), if_neg (by omega), if_pos (by omega)]
theorem dE_ord {k : Nat} (h : k < 12) (G : dG) (r : Nat → Nat) : dE G (30 + 5 * k) r = .inr (2, [.ref (ra G (31 + 5 * k)), .int (nI (r 1)), .int (nI (r 2)), .int (nI (r 3))]) := by
  unfold dE
  rw [if_neg (by omega), if_neg (by omega), if_neg (by omega), if_neg (by omega), if_neg (by omega), if_neg (by omega), if_neg (by omega), if_neg (by omega), if_neg (by omega), if_neg (by omega), if_neg (by omega), if_pos (by omega), show 30 + 5 * k + 1 = 31 + 5 * k by omega]
/-- one place written -/
def up2 (ν : Mm) (i j v : Nat) : Mm := va_up ν i (va_up (ν i) j v)
theorem up2_at (ν : Mm) (i j v : Nat) : up2 ν i j v i j = v := by simp [up2, va_up]
theorem up2_row (ν : Mm) (i j v : Nat) : up2 ν i j v i = va_up (ν i) j v := by simp [up2, va_up]
theorem up2_ne {ν : Mm} {i j v a : Nat} (h : a ≠ i) : up2 ν i j v a = ν a := by simp [up2, va_up, h]
theorem up2_ne2 {ν : Mm} {i j v a b : Nat} (h : b ≠ j) : up2 ν i j v a b = ν a b := by
  by_cases e : a = i
  · subst e; simp [up2, va_up, h]
  · rw [up2_ne e]
theorem up2_if (ν : Mm) (i j v a b : Nat) : up2 ν i j v a b = if a = i ∧ b = j then v else ν a b := by
  by_cases e : a = i
  · subst e
    by_cases f : b = j
    · subst f; simp [up2, va_up]
    · simp [up2, va_up, f]
  · rw [up2_ne e]; simp [e]
theorem up2_self (ν : Mm) (i j : Nat) : up2 ν i j (ν i j) = ν := by
  funext a b
  rw [up2_if]
  split
  · next h => rw [h.1, h.2]
  · rfl
/-- the memory -/
def dM (G : dG) (ν : Mm) (H : Heap) : Prop := ∀ i, i < 90 → va_at G.1 dkCl (ra G i, dE G i (ν i)) H
def wl (G : dG) (ν : Mm) : va_W := (List.range 90).map fun i => (ra G i, dE G i (ν i))
theorem wl_len (G : dG) (ν : Mm) : (wl G ν).length = 90 := by simp [wl]
theorem wl_get {G : dG} {ν : Mm} {i : Nat} (hi : i < 90) : (wl G ν)[i]? = some (ra G i, dE G i (ν i)) := by
  simp [wl, hi]
theorem wl_some {G : dG} {ν : Mm} {i : Nat} {q : Nat × va_E} (h : (wl G ν)[i]? = some q) : i < 90 ∧ q = (ra G i, dE G i (ν i)) := by
  have hi : i < 90 := by
    have := (List.getElem?_eq_some_iff.mp h).1
    rwa [wl_len] at this
  rw [wl_get hi] at h
  exact ⟨hi, (Option.some.inj h).symm⟩
theorem dM.P {G : dG} {ν : Mm} {H : Heap} (h : dM G ν H) : va_P G.1 dkCl (wl G ν) H := by
  intro k q hk
  obtain ⟨hi, rfl⟩ := wl_some hk
  exact h k hi
theorem dM_of {G : dG} {ν : Mm} {H : Heap} (h : va_P G.1 dkCl (wl G ν) H) : dM G ν H := fun i hi => h i _ (wl_get hi)
/-- which cells may change: the desk's, and new ones -/
def dA (G : dG) (sz : Nat) : Nat → Prop := fun q => (∃ i, i < 90 ∧ q = ra G i) ∨ sz ≤ q
theorem ra_inj {G : dG} {i j : Nat} (h : ra G i = ra G j) : i = j := by
  unfold ra at h; omega
theorem wl_D {G : dG} {ν : Mm} {sz : Nat} : va_D (dA G sz) (wl G ν) := by
  refine ⟨fun i j p q hi hj e => ?_, fun k q hk => ?_⟩
  · obtain ⟨-, rfl⟩ := wl_some hi
    obtain ⟨-, rfl⟩ := wl_some hj
    exact ra_inj e
  · obtain ⟨hi, rfl⟩ := wl_some hk
    exact Or.inl ⟨k, hi, rfl⟩
theorem dM_set {G : dG} {ν ν' : Mm} {H1 : Heap} {i : Nat} {e : va_E} (hi : i < 90) (h : va_P G.1 dkCl ((wl G ν).set i (ra G i, e)) H1) (he : dE G i (ν' i) = e) (ho : ∀ k, k ≠ i → ν' k = ν k) : dM G ν' H1 := by
  intro k hk
  by_cases e1 : k = i
  · subst e1
    rw [he]
    exact h k _ (by rw [List.getElem?_set_self (by rw [wl_len]; exact hk)])
  · rw [ho k e1]
    exact h k _ (by rw [List.getElem?_set_ne (Ne.symm e1)]; exact wl_get hk)
/-! the words: the good ones of the tables; the links between nest mates -/
def allW : List Cond := lw_tbl.filter goodWord
theorem allW_in {w : Cond} (h : w ∈ lw_tbl) (hg : goodWord w = true) : w ∈ allW := List.mem_filter.mpr ⟨h, hg⟩
theorem allW_tbl {w : Cond} (h : w ∈ allW) : w ∈ lw_tbl := (List.mem_filter.mp h).1
theorem goodIn_all {w0 : Cond} {b : List Cond} (hb : ∀ w ∈ allW, w ∈ b) (h0 : w0 ∈ allW) : GoodIn b (w0 :: allW) := by
  intro w hw
  rcases List.mem_cons.mp hw with rfl | hw
  · exact ⟨hb _ h0, good_of_word (List.mem_filter.mp h0).2⟩
  · exact ⟨hb _ hw, good_of_word (List.mem_filter.mp hw).2⟩
def isNest : Cond → Bool
  | .fieldLinkNest .. => true
  | .methodLinkNest .. => true
  | _ => false
def nestW : List Cond := lw_tbl.filter isNest
theorem nestW_in {w : Cond} (h : w ∈ lw_tbl) (hg : isNest w = true) : w ∈ nestW := List.mem_filter.mpr ⟨h, hg⟩
def NZ (U : State) : Prop := ∀ w ∈ nestW, va_Nw w U
theorem NZ.warm {s U : State} (hW : s.WarmedH U.vm) (h : NZ s) : NZ U := by
  intro w hw
  have h1 := h w hw
  have h2 := (List.mem_filter.mp hw).2
  cases w <;> first | exact va_Nw.warmF hW h1 | exact va_Nw.warmM hW h1 | exact absurd h2 (by simp [isNest])
theorem NZ.same {u U : State} (e : u.vm = U.vm) (h : NZ u) : NZ U := by
  intro w hw
  have h1 := h w hw
  have h2 := (List.mem_filter.mp hw).2
  cases w <;> first | exact va_Nw.same rfl e h1 | exact absurd h2 (by simp [isNest])
/-- what the tables are to the desk -/
abbrev dT (G : dG) : List (ClassId × FieldType) := [(G.2.1.1, .int), (G.2.1.2.1, .object RX0), (G.2.1.2.2.1, .object RX2), (G.2.1.2.2.2, .array .int)]
def dK (G : dG) (U : State) : Prop := va_K G.1 dkCl (dT G) U ∧ NZ U
theorem dK.warm {G : dG} {s U : State} (hW : s.WarmedH U.vm) (h : dK G s) : dK G U := ⟨va_K.moved hW.alike h.1, h.2.warm hW⟩
theorem dK.calling {G : dG} {U : State} {g : JFrame} {mk : MethodId} {a : Array Value} (h : dK G U) : dK G (U.calling g mk a) := ⟨va_K.moved (u := U) (U := U.calling g mk a) (Vm.Alike.refl U.vm) h.1, NZ.same (u := U) (U := U.calling g mk a) rfl h.2⟩
/-- a frame of a method of 'own' -/
def dC (p : Program) (s : State) (m : MethodId) (args : Array Value) (c : Code) (cc : ByteArray) (n : Nat) (own : String) (G : dG) : Prop :=
  p.tables.exec = Jvm.exec ∧ c.code = cc ∧ c.maxLocals = n ∧ s.vm.findClass own = some m.cls ∧ (∀ w ∈ allW, w.before args s = true) ∧ dK G s
theorem inA0 : ∀ w ∈ wsX00, w ∈ allW := by decide +kernel
theorem inA1 : ∀ w ∈ wsX10, w ∈ allW := by decide +kernel
theorem inA2 : ∀ w ∈ wsX20, w ∈ allW := by decide +kernel
theorem inA3 : ∀ w ∈ wsX30, w ∈ allW := by decide +kernel
theorem inA4 : ∀ w ∈ wsX40, w ∈ allW := by decide +kernel
theorem inA5 : ∀ w ∈ wsX50, w ∈ allW := by decide +kernel
end
section
/-! ===== rows over the memory ===== -/
/-- the start's heap is H0; what is written since lies among the desk's cells or is new -/
abbrev dS (G : dG) (H0 H : Heap) (locs : List Loc) : Prop := va_S (dA G H0.size) H0 H locs
section RW1
variable {p : Program} {l : Launch} {e : Env} {R : Room} {s : State} {m : MethodId} {args : Array Value} {below : List Frame} {meth : Method} {c : Code} {H : Heap} {locs : List Loc} {cells slots : Nat} {Q : State → Prop}
variable {cc : ByteArray} {pc n : Nat} {ls : Array Slot} {rest : List Value} {own : String} {G : dG} {ν : Mm} {H0 : Heap}
/-- a field is read -/
theorem m_get {ref C : String} {T : u_T} {N ci index i : Nat} {fs : List Value} {v : Value} (X : dC p s m args c cc n own G) (hM : dM G ν H) (hin : ∀ w ∈ u_ws C T N, w ∈ allW) (hi : i < 90) (hE : dE G i (ν i) = .inr (ci, fs)) (hc : dkCl[ci]? = some (C, T, N)) (k : Nat) (hk : k < N) (hlink : Cond.fieldLink own index ref (T k).2.1 (T k).2.2.1 ∈ allW) (hr : ref = (T k).1) (hv : fs[k]? = some v) (hdg : decode cc pc = .ok (.getfield index, 3))
    (kk : W p l e R s m args below meth c H locs cells slots Q (F0 m (pc + 3) ls (v :: rest))) : W p l e R s m args below meth c H locs cells slots Q (F0 m pc ls (.ref (ra G i) :: rest)) := by
  obtain ⟨hx, hb, -, hown, hts, hK⟩ := X
  subst hr
  exact va_get (D := G.1) (ci := ci) (C := C) (T := T) (N := N) hx hb hts hin hown hK.1 hM.P i ((wl_get hi).trans (by rw [hE])) hc k hk (hts _ hlink) (fun _ h => h) hv hdg kk
theorem m_getN {ref C host : String} {T : u_T} {N ci index i : Nat} {fs : List Value} {v : Value} (X : dC p s m args c cc n own G) (hM : dM G ν H) (hin : ∀ w ∈ u_ws C T N, w ∈ allW) (hi : i < 90) (hE : dE G i (ν i) = .inr (ci, fs)) (hc : dkCl[ci]? = some (C, T, N)) (k : Nat) (hk : k < N) (hlink : Cond.fieldLinkNest own index ref (T k).2.1 (T k).2.2.1 host ∈ nestW) (hr : ref = (T k).1) (hv : fs[k]? = some v) (hdg : decode cc pc = .ok (.getfield index, 3))
    (kk : W p l e R s m args below meth c H locs cells slots Q (F0 m (pc + 3) ls (v :: rest))) : W p l e R s m args below meth c H locs cells slots Q (F0 m pc ls (.ref (ra G i) :: rest)) := by
  obtain ⟨hx, hb, -, hown, hts, hK⟩ := X
  subst hr
  exact va_getN (D := G.1) (ci := ci) (C := C) (T := T) (N := N) hx hb hts hin hown hK.1 hM.P i ((wl_get hi).trans (by rw [hE])) hc k hk (va_Nw.use rfl (hK.2 _ hlink)) (fun _ h => h) hv hdg kk
/-- a field is written -/
theorem m_put {ref C : String} {T : u_T} {N ci index i w : Nat} {fs : List Value} {ty0 : Nat → FieldType} (X : dC p s m args c cc n own G) (hM : dM G ν H) (hS : dS G H0 H locs) (hin : ∀ w ∈ u_ws C T N, w ∈ allW) (hty : ∀ k, k < N → parseFieldDescriptor (T k).2.2.1 = some (ty0 k)) (hnm : ∀ a, a < N → ∀ b, b < N → a ≠ b → (T a).2.1 ≠ (T b).2.1) (hi : i < 90) (hE : dE G i (ν i) = .inr (ci, fs)) (hc : dkCl[ci]? = some (C, T, N)) (k : Nat) (hk : k < N) (hlink : Cond.fieldLink own index ref (T k).2.1 (T k).2.2.1 ∈ allW) (hr : ref = (T k).1) (hfin : (T k).2.2.2 = false) (hd : parseFieldDescriptor (T k).2.2.1 = some .int) (hl : k < fs.length) (hE' : dE G i (va_up (ν i) k w) = .inr (ci, fs.set k (.int (nI w))))
    (hdg : decode cc pc = .ok (.putfield index, 3)) (kk : ∀ (H1 : Heap) (locs1 : List Loc), dM G (up2 ν i k w) H1 → dS G H0 H1 locs1 → W p l e R s m args below meth c H1 locs1 cells slots Q (F0 m (pc + 3) ls rest)) : W p l e R s m args below meth c H locs cells slots Q (F0 m pc ls (.int (nI w) :: .ref (ra G i) :: rest)) := by
  obtain ⟨hx, hb, -, hown, hts, hK⟩ := X
  subst hr
  refine va_put (D := G.1) (ci := ci) (C := C) (T := T) (N := N) (ty := .int) hx hb hts hin ty0 hty hnm hown hK.1 hM.P wl_D hS i ((wl_get hi).trans (by rw [hE])) hc k hk (hts _ hlink) (fun _ h => h) hfin hd rfl rfl hl hdg (fun H1 locs1 hP _ hS1 => kk H1 locs1 (dM_set hi hP ?_ ?_) hS1)
  · rw [up2_row]; exact hE'
  · intro k hk; exact up2_ne hk
theorem m_putN {ref C host : String} {T : u_T} {N ci index i w : Nat} {fs : List Value} {ty0 : Nat → FieldType} (X : dC p s m args c cc n own G) (hM : dM G ν H) (hS : dS G H0 H locs) (hin : ∀ w ∈ u_ws C T N, w ∈ allW) (hty : ∀ k, k < N → parseFieldDescriptor (T k).2.2.1 = some (ty0 k)) (hnm : ∀ a, a < N → ∀ b, b < N → a ≠ b → (T a).2.1 ≠ (T b).2.1) (hi : i < 90) (hE : dE G i (ν i) = .inr (ci, fs)) (hc : dkCl[ci]? = some (C, T, N)) (k : Nat) (hk : k < N) (hlink : Cond.fieldLinkNest own index ref (T k).2.1 (T k).2.2.1 host ∈ nestW) (hr : ref = (T k).1) (hfin : (T k).2.2.2 = false) (hd : parseFieldDescriptor (T k).2.2.1 = some .int) (hl : k < fs.length) (hE' : dE G i (va_up (ν i) k w) = .inr (ci, fs.set k (.int (nI w))))
    (hdg : decode cc pc = .ok (.putfield index, 3)) (kk : ∀ (H1 : Heap) (locs1 : List Loc), dM G (up2 ν i k w) H1 → dS G H0 H1 locs1 → W p l e R s m args below meth c H1 locs1 cells slots Q (F0 m (pc + 3) ls rest)) : W p l e R s m args below meth c H locs cells slots Q (F0 m pc ls (.int (nI w) :: .ref (ra G i) :: rest)) := by
  obtain ⟨hx, hb, -, hown, hts, hK⟩ := X
  subst hr
  refine va_putN (D := G.1) (ci := ci) (C := C) (T := T) (N := N) (ty := .int) hx hb hts hin ty0 hty hnm hown hK.1 hM.P wl_D hS i ((wl_get hi).trans (by rw [hE])) hc k hk (va_Nw.use rfl (hK.2 _ hlink)) (fun _ h => h) hfin hd rfl rfl hl hdg (fun H1 locs1 hP _ hS1 => kk H1 locs1 (dM_set hi hP ?_ ?_) hS1)
  · rw [up2_row]; exact hE'
  · intro k hk; exact up2_ne hk
/-- places of int rows -/
theorem m_iald {i N j : Nat} (X : dC p s m args c cc n own G) (hM : dM G ν H) (hi : i < 90) (hE : dE G i (ν i) = aI G N (ν i)) (hj : j < N) (hN : N < 2 ^ 31) (hdg : decode cc pc = .ok (.iaload, 1))
    (kk : W p l e R s m args below meth c H locs cells slots Q (F0 m (pc + 1) ls (.int (nI (ν i j)) :: rest))) : W p l e R s m args below meth c H locs cells slots Q (F0 m pc ls (.int (nI j) :: .ref (ra G i) :: rest)) := by
  obtain ⟨hx, hb, -, hown, hts, hK⟩ := X
  have hc : (nI j).toNatClampNeg = j := nI_clamp (by omega)
  refine va_iald (D := G.1) (cA := G.2.1.1) (n := N) (f := fun j => nI (ν i j)) hx hb hK.1 hM.P i 0 ((wl_get hi).trans (by rw [hE]; rfl)) rfl (vp_in_nI hj hN) hdg ?_
  rw [hc]
  exact kk
theorem m_iast {i N j w : Nat} (X : dC p s m args c cc n own G) (hM : dM G ν H) (hS : dS G H0 H locs) (hi : i < 90) (hE : ∀ r, dE G i r = aI G N r) (hj : j < N) (hN : N < 2 ^ 31) (hdg : decode cc pc = .ok (.iastore, 1))
    (kk : ∀ (H1 : Heap) (locs1 : List Loc), dM G (up2 ν i j w) H1 → dS G H0 H1 locs1 → W p l e R s m args below meth c H1 locs1 cells slots Q (F0 m (pc + 1) ls rest)) : W p l e R s m args below meth c H locs cells slots Q (F0 m pc ls (.int (nI w) :: .int (nI j) :: .ref (ra G i) :: rest)) := by
  obtain ⟨hx, hb, -, hown, hts, hK⟩ := X
  have hc : (nI j).toNatClampNeg = j := nI_clamp (by omega)
  refine va_iast (D := G.1) (cA := G.2.1.1) (n := N) (f := fun j => nI (ν i j)) hx hb hK.1 hM.P wl_D hS i 0 ((wl_get hi).trans (by rw [hE]; rfl)) rfl (vp_in_nI hj hN) hdg (fun H1 locs1 hP _ hS1 => kk H1 locs1 (dM_set hi hP ?_ ?_) hS1)
  · rw [up2_row, hE, hc]
    have e : (fun q => nI (va_up (ν i) j w q)) = upd (fun j => nI (ν i j)) j (nI w) := by
      funext q
      by_cases h : q = j
      · subst h; simp [va_up, upd]
      · simp [va_up, upd, h]
    unfold aI
    rw [e]
  · intro k hk; exact up2_ne hk
theorem m_alen {i N : Nat} (X : dC p s m args c cc n own G) (hM : dM G ν H) (hi : i < 90) (hE : dE G i (ν i) = aI G N (ν i)) (hdg : decode cc pc = .ok (.arraylength, 1))
    (kk : W p l e R s m args below meth c H locs cells slots Q (F0 m (pc + 1) ls (.int (nI N) :: rest))) : W p l e R s m args below meth c H locs cells slots Q (F0 m pc ls (.ref (ra G i) :: rest)) := by
  obtain ⟨hx, hb, -, hown, hts, hK⟩ := X
  exact va_alen (D := G.1) (cA := G.2.1.1) (x := (N, .inl (fun j => nI (ν i j)))) (ty := .int) hx hb hK.1 hM.P i 0 ((wl_get hi).trans (by rw [hE]; rfl)) rfl rfl hdg kk
/-- a place of a row of references -/
theorem m_aald {i N j : Nat} {cA : ClassId} {ty : FieldType} {f : Nat → Nat} (t0 : Nat) (hty : ty.isReference = true) (X : dC p s m args c cc n own G) (hM : dM G ν H) (hi : i < 90) (hE : dE G i (ν i) = aR cA N f) (ht : (dT G)[t0]? = some (cA, ty)) (hj : j < N) (hN : N < 2 ^ 31) (hdg : decode cc pc = .ok (.aaload, 1))
    (kk : W p l e R s m args below meth c H locs cells slots Q (F0 m (pc + 1) ls (.ref (f j) :: rest))) : W p l e R s m args below meth c H locs cells slots Q (F0 m pc ls (.int (nI j) :: .ref (ra G i) :: rest)) := by
  obtain ⟨hx, hb, -, hown, hts, hK⟩ := X
  have hc : (nI j).toNatClampNeg = j := nI_clamp (by omega)
  have h0 := hM i hi
  rw [hE] at h0
  have h1 : H[ra G i]? = some (vp_cell cA (N, .inr (.inr (.inr (.inr (fun j => some (f j))))))) := h0
  exact W.aald (v := .ref (f j)) (ty := ty) hx hb h1 ((hK.1.2 t0 _ ht).1 N (fun j => va_rf (some (f j)))) hty (fun q => by cases q) (by show ¬ (nI j < 0 ∨ (arrV _ _ _).slots.size ≤ _); rw [arrV_size]; exact vp_in_nI hj hN) (by show (arrV _ _ _).slots[_]? = _; rw [hc, arrV_read _ _ hj]; rfl) rfl rfl hdg kk
end RW1
section RW2
variable {p : Program} {l : Launch} {e : Env} {R : Room} {s : State} {m : MethodId} {args : Array Value} {below : List Frame} {meth : Method} {c : Code} {H : Heap} {locs : List Loc} {cells slots : Nat} {Q : State → Prop}
variable {cc : ByteArray} {pc n : Nat} {ls : Array Slot} {rest : List Value} {own : String} {G : dG} {ν : Mm} {H0 : Heap}
/-! ints as numbers of Nat -/
theorem tn_add {a b : Nat} (X : dC p s m args c cc n own G) (hdg : decode cc pc = .ok (.iadd, 1)) (k : W p l e R s m args below meth c H locs cells slots Q (F0 m (pc + 1) ls (.int (nI (a + b)) :: rest))) : W p l e R s m args below meth c H locs cells slots Q (F0 m pc ls (.int (nI b) :: .int (nI a) :: rest)) :=
  lv_iadd X.1 X.2.1 hdg (by rw [nI_add]; exact k)
theorem tn_sub {a b : Nat} (X : dC p s m args c cc n own G) (hdg : decode cc pc = .ok (.isub, 1)) (h : b ≤ a) (k : W p l e R s m args below meth c H locs cells slots Q (F0 m (pc + 1) ls (.int (nI (a - b)) :: rest))) : W p l e R s m args below meth c H locs cells slots Q (F0 m pc ls (.int (nI b) :: .int (nI a) :: rest)) :=
  lv_isub X.1 X.2.1 hdg (by rw [pk_sub h]; exact k)
theorem tn_mul {a b : Nat} (X : dC p s m args c cc n own G) (hdg : decode cc pc = .ok (.imul, 1)) (k : W p l e R s m args below meth c H locs cells slots Q (F0 m (pc + 1) ls (.int (nI (a * b)) :: rest))) : W p l e R s m args below meth c H locs cells slots Q (F0 m pc ls (.int (nI b) :: .int (nI a) :: rest)) :=
  lv_imul X.1 X.2.1 hdg (by rw [pk_mul]; exact k)
theorem tn_div {a b : Nat} (X : dC p s m args c cc n own G) (hdg : decode cc pc = .ok (.idiv, 1)) (ha : a < 2 ^ 31) (h0 : 0 < b) (hb : b < 2 ^ 31) (k : W p l e R s m args below meth c H locs cells slots Q (F0 m (pc + 1) ls (.int (nI (a / b)) :: rest))) : W p l e R s m args below meth c H locs cells slots Q (F0 m pc ls (.int (nI b) :: .int (nI a) :: rest)) :=
  lv_idiv X.1 X.2.1 hdg (nI_ne0 h0 hb) (by rw [pk_div ha h0 hb]; exact k)
theorem nI_amt {k : Nat} (hk : k < 32) : ((nI k &&& 31).toBitVec.smod 32).toNat = k := by
  have : ∀ k : Fin 32, ((nI k.val &&& 31).toBitVec.smod 32).toNat = k.val := by decide +kernel
  exact this ⟨k, hk⟩
theorem tn_shr {a k0 : Nat} (X : dC p s m args c cc n own G) (hdg : decode cc pc = .ok (.ishr, 1)) (ha : a < 2 ^ 31) (hk : k0 < 32) (k : W p l e R s m args below meth c H locs cells slots Q (F0 m (pc + 1) ls (.int (nI (a / 2 ^ k0)) :: rest))) : W p l e R s m args below meth c H locs cells slots Q (F0 m pc ls (.int (nI k0) :: .int (nI a) :: rest)) :=
  lv_ishr X.1 X.2.1 hdg (by rw [pk_shrN ha _ k0 (nI_amt hk)]; exact k)
theorem tn_shl1 {k0 : Nat} (X : dC p s m args c cc n own G) (hdg : decode cc pc = .ok (.ishl, 1)) (hk : k0 < 31) (k : W p l e R s m args below meth c H locs cells slots Q (F0 m (pc + 1) ls (.int (nI (2 ^ k0)) :: rest))) : W p l e R s m args below meth c H locs cells slots Q (F0 m pc ls (.int (nI k0) :: .int (nI 1) :: rest)) :=
  lv_ishl X.1 X.2.1 hdg (by
    have h := pk_shlN (n := 1) (nI k0 &&& 31) k0 (nI_amt (by omega)) (by rw [Nat.one_mul]; exact Nat.pow_lt_pow_right (by omega) (by omega))
    rw [Nat.one_mul] at h
    rw [h]; exact k)
theorem nI_and (a b : Nat) : nI a &&& nI b = nI (a &&& b) := by
  apply Int32.toBitVec_inj.mp
  rw [Int32.toBitVec_and]
  show BitVec.ofNat 32 a &&& BitVec.ofNat 32 b = BitVec.ofNat 32 (a &&& b)
  apply BitVec.eq_of_toNat_eq
  simp only [BitVec.toNat_and, BitVec.toNat_ofNat]
  rw [Nat.and_mod_two_pow]
theorem nI_or (a b : Nat) : nI a ||| nI b = nI (a ||| b) := by
  apply Int32.toBitVec_inj.mp
  rw [Int32.toBitVec_or]
  show BitVec.ofNat 32 a ||| BitVec.ofNat 32 b = BitVec.ofNat 32 (a ||| b)
  apply BitVec.eq_of_toNat_eq
  simp only [BitVec.toNat_or, BitVec.toNat_ofNat]
  rw [Nat.or_mod_two_pow]
theorem tn_and {a b : Nat} (X : dC p s m args c cc n own G) (hdg : decode cc pc = .ok (.iand, 1)) (k : W p l e R s m args below meth c H locs cells slots Q (F0 m (pc + 1) ls (.int (nI (a &&& b)) :: rest))) : W p l e R s m args below meth c H locs cells slots Q (F0 m pc ls (.int (nI b) :: .int (nI a) :: rest)) :=
  lv_iand X.1 X.2.1 hdg (by rw [nI_and]; exact k)
theorem tn_or {a b : Nat} (X : dC p s m args c cc n own G) (hdg : decode cc pc = .ok (.ior, 1)) (k : W p l e R s m args below meth c H locs cells slots Q (F0 m (pc + 1) ls (.int (nI (a ||| b)) :: rest))) : W p l e R s m args below meth c H locs cells slots Q (F0 m pc ls (.int (nI b) :: .int (nI a) :: rest)) :=
  lv_ior X.1 X.2.1 hdg (by rw [nI_or]; exact k)
/-- constants -/
theorem tn_ic {v : Nat} {z : Int} (X : dC p s m args c cc n own G) (hdg : decode cc pc = .ok (.iconst z, 1)) (hv : Int32.ofInt z = nI v) (k : W p l e R s m args below meth c H locs cells slots Q (F0 m (pc + 1) ls (.int (nI v) :: rest))) : W p l e R s m args below meth c H locs cells slots Q (F0 m pc ls rest) := lv_iconst X.1 X.2.1 hdg hv k
theorem tn_bi {v : Nat} {z : Int} (X : dC p s m args c cc n own G) (hdg : decode cc pc = .ok (.bipush z, 2)) (hv : (Int8.ofInt z).toInt32 = nI v) (k : W p l e R s m args below meth c H locs cells slots Q (F0 m (pc + 2) ls (.int (nI v) :: rest))) : W p l e R s m args below meth c H locs cells slots Q (F0 m pc ls rest) := lv_bipush X.1 X.2.1 hdg hv k
theorem tn_si {v : Nat} {z : Int} (X : dC p s m args c cc n own G) (hdg : decode cc pc = .ok (.sipush z, 3)) (hv : (Int16.ofInt z).toInt32 = nI v) (k : W p l e R s m args below meth c H locs cells slots Q (F0 m (pc + 3) ls (.int (nI v) :: rest))) : W p l e R s m args below meth c H locs cells slots Q (F0 m pc ls rest) := lv_sipush X.1 X.2.1 hdg hv k
theorem tn_ldc {v : Int32} {w index : Nat} (X : dC p s m args c cc n own G) (hw : Cond.constant own index v ∈ allW) (hv : v = nI w) (hdg : decode cc pc = .ok (.ldc index, 2)) (k : W p l e R s m args below meth c H locs cells slots Q (F0 m (pc + 2) ls (.int (nI w) :: rest))) : W p l e R s m args below meth c H locs cells slots Q (F0 m pc ls rest) := by
  subst hv
  exact lv_ldc X.1 X.2.1 X.2.2.2.1 (X.2.2.2.2.1 _ hw) hdg k
/-- branches -/
theorem tn_ge {a b tgt : Nat} {off : Int} (X : dC p s m args c cc n own G) (hdg : decode cc pc = .ok (.if_icmp .ge off, 3)) (ht : (pc : Int) + off = (tgt : Int)) (ha : a < 2 ^ 31) (hb : b < 2 ^ 31) (kt : b ≤ a → W p l e R s m args below meth c H locs cells slots Q (F0 m tgt ls rest)) (kf : a < b → W p l e R s m args below meth c H locs cells slots Q (F0 m (pc + 3) ls rest)) : W p l e R s m args below meth c H locs cells slots Q (F0 m pc ls (.int (nI b) :: .int (nI a) :: rest)) :=
  lv_icmp_ge X.1 X.2.1 hdg ht (fun h => kt ((nI_leI hb ha).mp h)) (fun h => kf (Nat.lt_of_not_le fun q => h ((nI_leI hb ha).mpr q)))
theorem tn_lt {a b tgt : Nat} {off : Int} (X : dC p s m args c cc n own G) (hdg : decode cc pc = .ok (.if_icmp .lt off, 3)) (ht : (pc : Int) + off = (tgt : Int)) (ha : a < 2 ^ 31) (hb : b < 2 ^ 31) (kt : a < b → W p l e R s m args below meth c H locs cells slots Q (F0 m tgt ls rest)) (kf : b ≤ a → W p l e R s m args below meth c H locs cells slots Q (F0 m (pc + 3) ls rest)) : W p l e R s m args below meth c H locs cells slots Q (F0 m pc ls (.int (nI b) :: .int (nI a) :: rest)) :=
  lv_icmp_lt X.1 X.2.1 hdg ht (fun h => kt ((nI_ltI ha hb).mp h)) (fun h => kf (Nat.le_of_not_lt fun q => h ((nI_ltI ha hb).mpr q)))
theorem tn_gt {a b tgt : Nat} {off : Int} (X : dC p s m args c cc n own G) (hdg : decode cc pc = .ok (.if_icmp .gt off, 3)) (ht : (pc : Int) + off = (tgt : Int)) (ha : a < 2 ^ 31) (hb : b < 2 ^ 31) (kt : b < a → W p l e R s m args below meth c H locs cells slots Q (F0 m tgt ls rest)) (kf : a ≤ b → W p l e R s m args below meth c H locs cells slots Q (F0 m (pc + 3) ls rest)) : W p l e R s m args below meth c H locs cells slots Q (F0 m pc ls (.int (nI b) :: .int (nI a) :: rest)) :=
  lv_icmp_gt X.1 X.2.1 hdg ht (fun h => kt ((nI_ltI hb ha).mp h)) (fun h => kf (Nat.le_of_not_lt fun q => h ((nI_ltI hb ha).mpr q)))
theorem tn_le {a b tgt : Nat} {off : Int} (X : dC p s m args c cc n own G) (hdg : decode cc pc = .ok (.if_icmp .le off, 3)) (ht : (pc : Int) + off = (tgt : Int)) (ha : a < 2 ^ 31) (hb : b < 2 ^ 31) (kt : a ≤ b → W p l e R s m args below meth c H locs cells slots Q (F0 m tgt ls rest)) (kf : b < a → W p l e R s m args below meth c H locs cells slots Q (F0 m (pc + 3) ls rest)) : W p l e R s m args below meth c H locs cells slots Q (F0 m pc ls (.int (nI b) :: .int (nI a) :: rest)) :=
  lv_icmp_le X.1 X.2.1 hdg ht (fun h => kt ((nI_leI ha hb).mp h)) (fun h => kf (Nat.lt_of_not_le fun q => h ((nI_leI ha hb).mpr q)))
theorem tn_ne {a b tgt : Nat} {off : Int} (X : dC p s m args c cc n own G) (hdg : decode cc pc = .ok (.if_icmp .ne off, 3)) (ht : (pc : Int) + off = (tgt : Int)) (ha : a < 2 ^ 31) (hb : b < 2 ^ 31) (kt : a ≠ b → W p l e R s m args below meth c H locs cells slots Q (F0 m tgt ls rest)) (kf : a = b → W p l e R s m args below meth c H locs cells slots Q (F0 m (pc + 3) ls rest)) : W p l e R s m args below meth c H locs cells slots Q (F0 m pc ls (.int (nI b) :: .int (nI a) :: rest)) :=
  lv_icmp_ne X.1 X.2.1 hdg ht (fun h => kt (fun q => h (by rw [q]))) (fun h => kf ((nI_eq ha hb).mp h))
theorem tn_eq {a b tgt : Nat} {off : Int} (X : dC p s m args c cc n own G) (hdg : decode cc pc = .ok (.if_icmp .eq off, 3)) (ht : (pc : Int) + off = (tgt : Int)) (ha : a < 2 ^ 31) (hb : b < 2 ^ 31) (kt : a = b → W p l e R s m args below meth c H locs cells slots Q (F0 m tgt ls rest)) (kf : a ≠ b → W p l e R s m args below meth c H locs cells slots Q (F0 m (pc + 3) ls rest)) : W p l e R s m args below meth c H locs cells slots Q (F0 m pc ls (.int (nI b) :: .int (nI a) :: rest)) :=
  lv_icmp_eq X.1 X.2.1 hdg ht (fun h => kt ((nI_eq ha hb).mp h)) (fun h => kf (fun q => h (by rw [q])))
theorem tn_eq0 {a tgt : Nat} {off : Int} (X : dC p s m args c cc n own G) (hdg : decode cc pc = .ok (.ifCond .eq off, 3)) (ht : (pc : Int) + off = (tgt : Int)) (ha : a < 2 ^ 31) (kt : a = 0 → W p l e R s m args below meth c H locs cells slots Q (F0 m tgt ls rest)) (kf : a ≠ 0 → W p l e R s m args below meth c H locs cells slots Q (F0 m (pc + 3) ls rest)) : W p l e R s m args below meth c H locs cells slots Q (F0 m pc ls (.int (nI a) :: rest)) :=
  lv_if_eq X.1 X.2.1 hdg ht (fun h => kt ((nI_eq ha (by omega)).mp (h.trans nI_0.symm))) (fun h => kf (fun q => h (by rw [q]; exact nI_0)))
theorem tn_ne0 {a tgt : Nat} {off : Int} (X : dC p s m args c cc n own G) (hdg : decode cc pc = .ok (.ifCond .ne off, 3)) (ht : (pc : Int) + off = (tgt : Int)) (ha : a < 2 ^ 31) (kt : a ≠ 0 → W p l e R s m args below meth c H locs cells slots Q (F0 m tgt ls rest)) (kf : a = 0 → W p l e R s m args below meth c H locs cells slots Q (F0 m (pc + 3) ls rest)) : W p l e R s m args below meth c H locs cells slots Q (F0 m pc ls (.int (nI a) :: rest)) :=
  lv_if_ne X.1 X.2.1 hdg ht (fun h => kt (fun q => h (by rw [q]; exact nI_0))) (fun h => kf ((nI_eq ha (by omega)).mp (h.trans nI_0.symm)))
theorem tn_gt0 {a tgt : Nat} {off : Int} (X : dC p s m args c cc n own G) (hdg : decode cc pc = .ok (.ifCond .gt off, 3)) (ht : (pc : Int) + off = (tgt : Int)) (ha : a < 2 ^ 31) (kt : 0 < a → W p l e R s m args below meth c H locs cells slots Q (F0 m tgt ls rest)) (kf : a = 0 → W p l e R s m args below meth c H locs cells slots Q (F0 m (pc + 3) ls rest)) : W p l e R s m args below meth c H locs cells slots Q (F0 m pc ls (.int (nI a) :: rest)) :=
  lv_if_gt X.1 X.2.1 hdg ht (fun h => kt (by rw [← nI_0] at h; exact (nI_ltI (by omega) ha).mp h)) (fun h => kf (by rw [← nI_0] at h; have : ¬ 0 < a := fun q => h ((nI_ltI (by omega) ha).mpr q); omega))
theorem tn_le0 {a tgt : Nat} {off : Int} (X : dC p s m args c cc n own G) (hdg : decode cc pc = .ok (.ifCond .le off, 3)) (ht : (pc : Int) + off = (tgt : Int)) (ha : a < 2 ^ 31) (kt : a = 0 → W p l e R s m args below meth c H locs cells slots Q (F0 m tgt ls rest)) (kf : 0 < a → W p l e R s m args below meth c H locs cells slots Q (F0 m (pc + 3) ls rest)) : W p l e R s m args below meth c H locs cells slots Q (F0 m pc ls (.int (nI a) :: rest)) :=
  lv_if_le X.1 X.2.1 hdg ht (fun h => kt (by rw [← nI_0] at h; have := (nI_leI ha (by omega)).mp h; omega)) (fun h => kf (by rw [← nI_0] at h; have : ¬ a ≤ 0 := fun q => h ((nI_leI ha (by omega)).mpr q); omega))
theorem tn_ge0 {a tgt : Nat} {off : Int} (X : dC p s m args c cc n own G) (hdg : decode cc pc = .ok (.ifCond .ge off, 3)) (ht : (pc : Int) + off = (tgt : Int)) (ha : a < 2 ^ 31) (kt : W p l e R s m args below meth c H locs cells slots Q (F0 m tgt ls rest)) : W p l e R s m args below meth c H locs cells slots Q (F0 m pc ls (.int (nI a) :: rest)) :=
  lv_if_ge X.1 X.2.1 hdg ht (fun h => kt) (fun h => absurd (nI_pos' ha) h)
theorem tn_lt0 {a : Nat} {off : Int} {tgt : Nat} (X : dC p s m args c cc n own G) (hdg : decode cc pc = .ok (.ifCond .lt off, 3)) (ht : (pc : Int) + off = (tgt : Int)) (ha : a < 2 ^ 31) (kf : W p l e R s m args below meth c H locs cells slots Q (F0 m (pc + 3) ls rest)) : W p l e R s m args below meth c H locs cells slots Q (F0 m pc ls (.int (nI a) :: rest)) :=
  lv_if_lt X.1 X.2.1 hdg ht (fun h => absurd h (nI_pos ha)) (fun h => kf)
/-- the top of the stack under another name -/
theorem tn_as {a b : Nat} (h : a = b) (k : W p l e R s m args below meth c H locs cells slots Q (F0 m pc ls (.int (nI b) :: rest))) : W p l e R s m args below meth c H locs cells slots Q (F0 m pc ls (.int (nI a) :: rest)) := by
  subst h; exact k
theorem tn_asR {a b : Nat} (h : a = b) (k : W p l e R s m args below meth c H locs cells slots Q (F0 m pc ls (.ref (ra G b) :: rest))) : W p l e R s m args below meth c H locs cells slots Q (F0 m pc ls (.ref (ra G a) :: rest)) := by
  subst h; exact k
theorem tn_and1 {a : Nat} (X : dC p s m args c cc n own G) (hdg : decode cc pc = .ok (.iand, 1)) (k : W p l e R s m args below meth c H locs cells slots Q (F0 m (pc + 1) ls (.int (nI (a % 2)) :: rest))) : W p l e R s m args below meth c H locs cells slots Q (F0 m pc ls (.int (nI 1) :: .int (nI a) :: rest)) :=
  lv_iand X.1 X.2.1 hdg (by rw [nI_and, Nat.and_one_is_mod]; exact k)
theorem tn_inc {i nL k a w : Nat} {z : Int} {lv lv' : List (Nat × Value)} (X : dC p s m args c cc n own G) (hdg : decode cc pc = .ok (.iinc i z, 3)) (h : lv_has ls nL lv) (hk : lv[k]? = some (i, .int (nI a))) (hz : Int32.ofInt z = nI w) (hn : i < nL) (hl : (i, Value.int (nI (a + w))) :: lv.filter (fun q => !(q.1 == i) && !(q.1 + 1 == i && q.2.category == 2)) = lv')
    (kk : ∀ ls' : Array Slot, lv_has ls' nL lv' → W p l e R s m args below meth c H locs cells slots Q (F0 m (pc + 3) ls' rest)) : W p l e R s m args below meth c H locs cells slots Q (F0 m pc ls rest) :=
  lv_iinc X.1 X.2.1 hdg h hk (by rw [hz, nI_add]) hn hl kk
theorem tn_dec {i nL k a : Nat} {lv lv' : List (Nat × Value)} (X : dC p s m args c cc n own G) (hdg : decode cc pc = .ok (.iinc i (-1), 3)) (h : lv_has ls nL lv) (hk : lv[k]? = some (i, .int (nI a))) (ha : 1 ≤ a) (hn : i < nL) (hl : (i, Value.int (nI (a - 1))) :: lv.filter (fun q => !(q.1 == i) && !(q.1 + 1 == i && q.2.category == 2)) = lv')
    (kk : ∀ ls' : Array Slot, lv_has ls' nL lv' → W p l e R s m args below meth c H locs cells slots Q (F0 m (pc + 3) ls' rest)) : W p l e R s m args below meth c H locs cells slots Q (F0 m pc ls rest) :=
  lv_iinc X.1 X.2.1 hdg h hk (by
    obtain ⟨b, rfl⟩ : ∃ b, a = b + 1 := ⟨a - 1, by omega⟩
    exact pk_m1 b) hn hl kk
end RW2
end
section
/-! ===== contracts over the memory, and their use ===== -/
/-- room for d frames -/
def rmD (d : Nat) : Room := { frames := d, cells := 0, slots := 0, locals := 40 * d }
abbrev wsD (y : MethodName) (b : ByteArray) (n : Nat) (ret : Option FieldType) : List Cond := Cond.code y b n ret :: allW
abbrev dPc (G : dG) (sz : Nat) (ν : Mm) (av : List Value) : Array Value → State → Prop := va_Pc av (fun U => U.heap.size = sz ∧ dM G ν U.heap ∧ dK G U)
abbrev dQi (G : dG) (sz : Nat) (P : Nat → Mm → Prop) : Array Value → State → Outcome → State → Prop := va_Qi (fun (x : Int32) (u : Nat × Mm) => x = nI u.1 ∧ P u.1 u.2) (fun u t => dM G u.2 t.heap) (dA G sz)
abbrev dQv (G : dG) (sz : Nat) (P : Mm → Prop) : Array Value → State → Outcome → State → Prop := va_Qv (fun (u : Mm) => P u) (fun u t => dM G u t.heap) (dA G sz)
/-- called with av over ν it answers some r and leaves some memory with P -/
def cI (l : Launch) (y : MethodName) (b : ByteArray) (n : Nat) (ret : Option FieldType) (d : Nat) (G : dG) (av : List Value) (ν : Mm) (P : Nat → Mm → Prop) : Prop :=
  ∀ sz, Met l y (wsD y b n ret) (rmD d) (dPc G sz ν av) (dQi G sz P) 0 0 (dA G sz)
def cV (l : Launch) (y : MethodName) (b : ByteArray) (n : Nat) (d : Nat) (G : dG) (av : List Value) (ν : Mm) (P : Mm → Prop) : Prop :=
  ∀ sz, Met l y (wsD y b n none) (rmD d) (dPc G sz ν av) (dQv G sz P) 0 0 (dA G sz)
theorem cI_of {l : Launch} {y : MethodName} {b : ByteArray} {n : Nat} {ret : Option FieldType} {d : Nat} {G : dG} {av : List Value} {ν : Mm} {P : Nat → Mm → Prop} (hy : plainName y.cls = true) (hn : (lg_sl av).length ≤ n)
    (body : ∀ (p : Program) (e : Env) (s : State) (m : MethodId) (args : Array Value) (below : List Frame) (meth : Method) (c : Code) (ls : Array Slot), dC p s m args c b n y.cls G → dM G ν s.heap → meth.sig.returnType = ret → meth.locks = false → lv_has ls n (lv_args 0 av) →
      W p l e (rmD d) s m args below meth c s.heap [] 0 0 (MQ below (dQi G s.heap.size P) args s 0 0 (dA G s.heap.size)) (F0 m 0 ls [])) : cI l y b n ret d G av ν P := by
  intro sz
  refine Met.ofW (cc := b) (maxL := n) (ret := ret) hy rfl ?_
  intro p e s m args below meth c s₁ B hml hv
  obtain ⟨rfl, hsz, hM, hK⟩ := hv
  subst hsz
  have hts := atoms_spec (ws := wsD y b n ret) B.pre
  have hl := lv_entry av hn
  rw [lg_entry_eq]
  exact body p e s m _ below meth c _ ⟨B.exec, B.bytes, hml, findClass_of_methodNamed B.named, fun w h => hts w (List.mem_cons_of_mem _ h), hK⟩ hM B.returns B.notSynchronized hl
theorem cV_of {l : Launch} {y : MethodName} {b : ByteArray} {n : Nat} {d : Nat} {G : dG} {av : List Value} {ν : Mm} {P : Mm → Prop} (hy : plainName y.cls = true) (hn : (lg_sl av).length ≤ n)
    (body : ∀ (p : Program) (e : Env) (s : State) (m : MethodId) (args : Array Value) (below : List Frame) (meth : Method) (c : Code) (ls : Array Slot), dC p s m args c b n y.cls G → dM G ν s.heap → meth.sig.returnType = none → meth.locks = false → lv_has ls n (lv_args 0 av) →
      W p l e (rmD d) s m args below meth c s.heap [] 0 0 (MQ below (dQv G s.heap.size P) args s 0 0 (dA G s.heap.size)) (F0 m 0 ls [])) : cV l y b n d G av ν P := by
  intro sz
  refine Met.ofW (cc := b) (maxL := n) (ret := none) hy rfl ?_
  intro p e s m args below meth c s₁ B hml hv
  obtain ⟨rfl, hsz, hM, hK⟩ := hv
  subst hsz
  have hts := atoms_spec (ws := wsD y b n none) B.pre
  have hl := lv_entry av hn
  rw [lg_entry_eq]
  exact body p e s m _ below meth c _ ⟨B.exec, B.bytes, hml, findClass_of_methodNamed B.named, fun w h => hts w (List.mem_cons_of_mem _ h), hK⟩ hM B.returns B.notSynchronized hl
theorem dPc_blind (G : dG) (sz : Nat) (ν : Mm) (av : List Value) : FrameBlind (dPc G sz ν av) := fun a U g mk q => by
  obtain ⟨q0, q1, q2, q3⟩ := q
  exact ⟨q0, q1, q2, q3.calling⟩
section RW3
variable {p : Program} {l : Launch} {e : Env} {R : Room} {s : State} {m : MethodId} {args : Array Value} {below : List Frame} {meth : Method} {c : Code} {H : Heap} {locs : List Loc} {cells slots : Nat} {Q : State → Prop}
variable {cc : ByteArray} {pc n : Nat} {ls : Array Slot} {rest : List Value} {own : String} {G : dG} {ν ν' : Mm} {H0 : Heap} {r : Nat} {P : Nat → Mm → Prop} {PV : Mm → Prop}
theorem rI (hP : P r ν') (X : dC p s m args c cc n own G) (hM : dM G ν' H) (hS : dS G s.heap H locs) (hr : meth.sig.returnType = some .int) (hlk : meth.locks = false) (hdg : decode cc pc = .ok (.ireturn, 1)) : W p l e R s m args below meth c H locs 0 0 (MQ below (dQi G s.heap.size P) args s 0 0 (dA G s.heap.size)) (F0 m pc ls [.int (nI r)]) :=
  W.iret X.1 X.2.1 hr (fun t ht hW => ⟨⟨nI r, (r, ν'), rfl, ⟨rfl, hP⟩, by show dM G ν' t.heap; rw [ht]; exact hM⟩, hS.F ht⟩) hS.2.2 hdg hlk
theorem rZ (hP : P r ν') (X : dC p s m args c cc n own G) (hM : dM G ν' H) (hS : dS G s.heap H locs) (hr : meth.sig.returnType = some .boolean) (hlk : meth.locks = false) (h01 : r = 0 ∨ r = 1) (hdg : decode cc pc = .ok (.ireturn, 1)) : W p l e R s m args below meth c H locs 0 0 (MQ below (dQi G s.heap.size P) args s 0 0 (dA G s.heap.size)) (F0 m pc ls [.int (nI r)]) :=
  W.zret (ty := .boolean) X.1 X.2.1 hr (by rcases h01 with rfl | rfl <;> rfl) (fun t ht hW => ⟨⟨nI r, (r, ν'), rfl, ⟨rfl, hP⟩, by show dM G ν' t.heap; rw [ht]; exact hM⟩, hS.F ht⟩) hS.2.2 hdg hlk
theorem rV (hP : PV ν') (X : dC p s m args c cc n own G) (hM : dM G ν' H) (hS : dS G s.heap H locs) (hr : meth.sig.returnType = none) (hlk : meth.locks = false) (hdg : decode cc pc = .ok (.return_, 1)) : W p l e R s m args below meth c H locs 0 0 (MQ below (dQv G s.heap.size PV) args s 0 0 (dA G s.heap.size)) (F0 m pc ls []) :=
  W.vret X.1 X.2.1 hr (fun t ht hW => ⟨⟨ν', rfl, hP, by show dM G ν' t.heap; rw [ht]; exact hM⟩, hS.F ht⟩) hS.2.2 hdg hlk
/-- what a call of y needs of the tables (an instance method; a static one) -/
def mfV (y : MethodName) (b : ByteArray) (n k : Nat) (ret : Option FieldType) : Prop :=
  Cond.instanceMethod y ∈ allW ∧ Cond.selects y.cls y y ∈ allW ∧ Cond.initialized y.cls ∈ allW ∧ Cond.code y b n ret ∈ allW ∧ (y.cls ≠ "java/lang/invoke/MethodHandle" ∧ y.cls ≠ "java/lang/invoke/VarHandle" ∧ (parseMethodDescriptor y.desc).map (fun d => d.parameters.length) = some k)
def mfS (y : MethodName) (b : ByteArray) (n k : Nat) (ret : Option FieldType) : Prop :=
  Cond.static y ∈ allW ∧ Cond.initialized y.cls ∈ allW ∧ Cond.code y b n ret ∈ allW ∧ (y.cls ≠ "java/lang/invoke/MethodHandle" ∧ y.cls ≠ "java/lang/invoke/VarHandle" ∧ (parseMethodDescriptor y.desc).map (fun d => d.parameters.length) = some k)
variable {y : MethodName} {b : ByteArray} {nL nY d index : Nat} {ret : Option FieldType} {As st : List Value}
theorem kFree (hS : dS G H0 H locs) : ∀ q, dA G H.size q → dA G H0.size q := fun q h => h.elim Or.inl (fun h => Or.inr (Nat.le_trans hS.1 h))
theorem kPreS (X : dC p s m args c cc nL own G) (hM : dM G ν H) : PreS s H (dPc G H.size ν As) As := ⟨dPc_blind _ _ _ _, fun U hU hW => ⟨rfl, by rw [hU], by rw [hU]; exact hM, X.2.2.2.2.2.warm hW⟩⟩
theorem kPreV {i ci : Nat} {fs : List Value} {q : vw_C} (X : dC p s m args c cc nL own G) (hM : dM G ν H) (hi : i < 90) (hE : dE G i (ν i) = .inr (ci, fs)) (hq : dkCl[ci]? = some q) (hqc : q.1 = y.cls) : PreV s H y.cls (ra G i) (dPc G H.size ν (.ref (ra G i) :: As)) As :=
  ⟨dPc_blind _ _ _ _, by rw [← hqc]; exact va_recv X.2.2.2.2.2.1 hM.P hq ((wl_get hi).trans (by rw [hE])), fun U hU hW => ⟨rfl, by rw [hU], by rw [hU]; exact hM, X.2.2.2.2.2.warm hW⟩⟩
theorem kB (X : dC p s m args c cc nL own G) (hini : Cond.initialized y.cls ∈ allW) (hcode : Cond.code y b nY ret ∈ allW) (hlink : Cond.methodLink own index y ∈ allW) (hd : y.cls ≠ "java/lang/invoke/MethodHandle" ∧ y.cls ≠ "java/lang/invoke/VarHandle" ∧ (parseMethodDescriptor y.desc).map (fun d => d.parameters.length) = some As.length) (hR : d + 1 ≤ R.frames ∧ 8 + (nY + 11) + 40 * d ≤ R.locals) : CallB R s args own index y b nY ret (wsD y b nY ret) (rmD d) 0 0 As.length :=
  callB_of As.length X.2.2.2.2.1 (goodIn_all (fun _ h => h) hcode) rfl rfl rfl (X.2.2.2.2.1 _ hini) (X.2.2.2.2.1 _ hlink) hd hR
theorem kN {host : String} (X : dC p s m args c cc nL own G) (hini : Cond.initialized y.cls ∈ allW) (hcode : Cond.code y b nY ret ∈ allW) (hlink : Cond.methodLinkNest own index y host ∈ nestW) (hd : y.cls ≠ "java/lang/invoke/MethodHandle" ∧ y.cls ≠ "java/lang/invoke/VarHandle" ∧ (parseMethodDescriptor y.desc).map (fun d => d.parameters.length) = some As.length) (hR : d + 1 ≤ R.frames ∧ 8 + (nY + 11) + 40 * d ≤ R.locals) : va_CN R s args own index y host b nY ret (wsD y b nY ret) (rmD d) 0 0 As.length :=
  va_cnB As.length X.2.2.2.2.1 (goodIn_all (fun _ h => h) hcode) rfl rfl rfl (X.2.2.2.2.2.2 _ hlink) (X.2.2.2.2.1 _ hini) hd hR
/-- a call, own link: instance, int or boolean -/
theorem kVI {i ci : Nat} {fs : List Value} {q : vw_C} (X : dC p s m args c cc nL own G) (hM : dM G ν H) (hS : dS G H0 H locs) (hl : ls.size = nL) (hc : cI l y b nY ret d G (.ref (ra G i) :: As) ν P) (hi : i < 90) (hE : dE G i (ν i) = .inr (ci, fs)) (hq : dkCl[ci]? = some q) (hqc : q.1 = y.cls) (hlink : Cond.methodLink own index y ∈ allW) (mf : mfV y b nY As.length ret) (hR : d + 1 ≤ R.frames ∧ 8 + (nY + 11) + 40 * d ≤ R.locals) (hcs : cells ≤ R.cells ∧ slots ≤ R.slots) (hstk : st = As.reverse ++ .ref (ra G i) :: rest) (hst : (rest.map fun v => v.category).sum ≤ 8) (hdg : decode cc pc = .ok (.invokevirtual index, 3))
    (kk : ∀ (r : Nat) (ν' : Mm) (H1 : Heap) (locs1 : List Loc), P r ν' → dM G ν' H1 → dS G H0 H1 locs1 → W p l e R s m args below meth c H1 locs1 cells slots Q (F0 m (pc + 3) ls (.int (nI r) :: rest))) : W p l e R s m args below meth c H locs cells slots Q (F0 m pc ls st) := by
  subst hstk
  obtain ⟨m1, m2, m3, m4, m5⟩ := mf
  refine va_calli (va_runV (As := As) (rest := rest) ⟨X.1, X.2.1, X.2.2.1, X.2.2.2.1, X.2.2.2.2.1⟩ (hc H.size) ⟨kB X m3 m4 hlink m5 hR, X.2.2.2.2.1 _ m1, X.2.2.2.2.1 _ m2⟩ (kPreV X hM hi hE hq hqc) rfl rfl hl rfl (lv_room hst) hdg hcs) hS (fun q _ h => kFree hS q h) (kFree hS) (fun r1 u t H1 locs1 ht hvm hw hB _ _ hS1 => ?_)
  rw [ht] at hB
  rw [hw.1]
  exact kk u.1 u.2 H1 locs1 hw.2 hB hS1
theorem kVV {i ci : Nat} {fs : List Value} {q : vw_C} (X : dC p s m args c cc nL own G) (hM : dM G ν H) (hS : dS G H0 H locs) (hl : ls.size = nL) (hc : cV l y b nY d G (.ref (ra G i) :: As) ν PV) (hi : i < 90) (hE : dE G i (ν i) = .inr (ci, fs)) (hq : dkCl[ci]? = some q) (hqc : q.1 = y.cls) (hlink : Cond.methodLink own index y ∈ allW) (mf : mfV y b nY As.length none) (hR : d + 1 ≤ R.frames ∧ 8 + (nY + 11) + 40 * d ≤ R.locals) (hcs : cells ≤ R.cells ∧ slots ≤ R.slots) (hstk : st = As.reverse ++ .ref (ra G i) :: rest) (hst : (rest.map fun v => v.category).sum ≤ 8) (hdg : decode cc pc = .ok (.invokevirtual index, 3))
    (kk : ∀ (ν' : Mm) (H1 : Heap) (locs1 : List Loc), PV ν' → dM G ν' H1 → dS G H0 H1 locs1 → W p l e R s m args below meth c H1 locs1 cells slots Q (F0 m (pc + 3) ls rest)) : W p l e R s m args below meth c H locs cells slots Q (F0 m pc ls st) := by
  subst hstk
  obtain ⟨m1, m2, m3, m4, m5⟩ := mf
  refine va_callv (va_runV (As := As) (rest := rest) ⟨X.1, X.2.1, X.2.2.1, X.2.2.2.1, X.2.2.2.2.1⟩ (hc H.size) ⟨kB X m3 m4 hlink m5 hR, X.2.2.2.2.1 _ m1, X.2.2.2.2.1 _ m2⟩ (kPreV X hM hi hE hq hqc) rfl rfl hl rfl (lv_room hst) hdg hcs) hS (fun q _ h => kFree hS q h) (kFree hS) (fun u t H1 locs1 ht hvm hw hB _ _ hS1 => ?_)
  rw [ht] at hB
  exact kk u H1 locs1 hw hB hS1
/-- a nest mate's -/
theorem kNI {i ci : Nat} {fs : List Value} {q : vw_C} {host : String} (X : dC p s m args c cc nL own G) (hM : dM G ν H) (hS : dS G H0 H locs) (hl : ls.size = nL) (hc : cI l y b nY ret d G (.ref (ra G i) :: As) ν P) (hi : i < 90) (hE : dE G i (ν i) = .inr (ci, fs)) (hq : dkCl[ci]? = some q) (hqc : q.1 = y.cls) (hlink : Cond.methodLinkNest own index y host ∈ nestW) (mf : mfV y b nY As.length ret) (hR : d + 1 ≤ R.frames ∧ 8 + (nY + 11) + 40 * d ≤ R.locals) (hcs : cells ≤ R.cells ∧ slots ≤ R.slots) (hstk : st = As.reverse ++ .ref (ra G i) :: rest) (hst : (rest.map fun v => v.category).sum ≤ 8) (hdg : decode cc pc = .ok (.invokevirtual index, 3))
    (kk : ∀ (r : Nat) (ν' : Mm) (H1 : Heap) (locs1 : List Loc), P r ν' → dM G ν' H1 → dS G H0 H1 locs1 → W p l e R s m args below meth c H1 locs1 cells slots Q (F0 m (pc + 3) ls (.int (nI r) :: rest))) : W p l e R s m args below meth c H locs cells slots Q (F0 m pc ls st) := by
  subst hstk
  obtain ⟨m1, m2, m3, m4, m5⟩ := mf
  refine va_calli (va_runVN (host := host) (As := As) (rest := rest) ⟨X.1, X.2.1, X.2.2.1, X.2.2.2.1, X.2.2.2.2.1⟩ (hc H.size) ⟨kN X m3 m4 hlink m5 hR, X.2.2.2.2.1 _ m1, X.2.2.2.2.1 _ m2⟩ (kPreV X hM hi hE hq hqc) rfl rfl hl rfl (lv_room hst) hdg hcs) hS (fun q _ h => kFree hS q h) (kFree hS) (fun r1 u t H1 locs1 ht hvm hw hB _ _ hS1 => ?_)
  rw [ht] at hB
  rw [hw.1]
  exact kk u.1 u.2 H1 locs1 hw.2 hB hS1
theorem kNV {i ci : Nat} {fs : List Value} {q : vw_C} {host : String} (X : dC p s m args c cc nL own G) (hM : dM G ν H) (hS : dS G H0 H locs) (hl : ls.size = nL) (hc : cV l y b nY d G (.ref (ra G i) :: As) ν PV) (hi : i < 90) (hE : dE G i (ν i) = .inr (ci, fs)) (hq : dkCl[ci]? = some q) (hqc : q.1 = y.cls) (hlink : Cond.methodLinkNest own index y host ∈ nestW) (mf : mfV y b nY As.length none) (hR : d + 1 ≤ R.frames ∧ 8 + (nY + 11) + 40 * d ≤ R.locals) (hcs : cells ≤ R.cells ∧ slots ≤ R.slots) (hstk : st = As.reverse ++ .ref (ra G i) :: rest) (hst : (rest.map fun v => v.category).sum ≤ 8) (hdg : decode cc pc = .ok (.invokevirtual index, 3))
    (kk : ∀ (ν' : Mm) (H1 : Heap) (locs1 : List Loc), PV ν' → dM G ν' H1 → dS G H0 H1 locs1 → W p l e R s m args below meth c H1 locs1 cells slots Q (F0 m (pc + 3) ls rest)) : W p l e R s m args below meth c H locs cells slots Q (F0 m pc ls st) := by
  subst hstk
  obtain ⟨m1, m2, m3, m4, m5⟩ := mf
  refine va_callv (va_runVN (host := host) (As := As) (rest := rest) ⟨X.1, X.2.1, X.2.2.1, X.2.2.2.1, X.2.2.2.2.1⟩ (hc H.size) ⟨kN X m3 m4 hlink m5 hR, X.2.2.2.2.1 _ m1, X.2.2.2.2.1 _ m2⟩ (kPreV X hM hi hE hq hqc) rfl rfl hl rfl (lv_room hst) hdg hcs) hS (fun q _ h => kFree hS q h) (kFree hS) (fun u t H1 locs1 ht hvm hw hB _ _ hS1 => ?_)
  rw [ht] at hB
  exact kk u H1 locs1 hw hB hS1
/-- a static one -/
theorem kSI (X : dC p s m args c cc nL own G) (hM : dM G ν H) (hS : dS G H0 H locs) (hl : ls.size = nL) (hc : cI l y b nY ret d G As ν P) (hlink : Cond.methodLink own index y ∈ allW) (mf : mfS y b nY As.length ret) (hR : d + 1 ≤ R.frames ∧ 8 + (nY + 11) + 40 * d ≤ R.locals) (hcs : cells ≤ R.cells ∧ slots ≤ R.slots) (hstk : st = As.reverse ++ rest) (hst : (rest.map fun v => v.category).sum ≤ 8) (hdg : decode cc pc = .ok (.invokestatic index, 3))
    (kk : ∀ (r : Nat) (ν' : Mm) (H1 : Heap) (locs1 : List Loc), P r ν' → dM G ν' H1 → dS G H0 H1 locs1 → W p l e R s m args below meth c H1 locs1 cells slots Q (F0 m (pc + 3) ls (.int (nI r) :: rest))) : W p l e R s m args below meth c H locs cells slots Q (F0 m pc ls st) := by
  subst hstk
  obtain ⟨m1, m3, m4, m5⟩ := mf
  refine va_calli (va_runS (As := As) (rest := rest) ⟨X.1, X.2.1, X.2.2.1, X.2.2.2.1, X.2.2.2.2.1⟩ (hc H.size) ⟨kB X m3 m4 hlink m5 hR, X.2.2.2.2.1 _ m1⟩ (kPreS X hM) rfl rfl hl rfl (lv_room hst) hdg hcs) hS (fun q _ h => kFree hS q h) (kFree hS) (fun r1 u t H1 locs1 ht hvm hw hB _ _ hS1 => ?_)
  rw [ht] at hB
  rw [hw.1]
  exact kk u.1 u.2 H1 locs1 hw.2 hB hS1
theorem kSV (X : dC p s m args c cc nL own G) (hM : dM G ν H) (hS : dS G H0 H locs) (hl : ls.size = nL) (hc : cV l y b nY d G As ν PV) (hlink : Cond.methodLink own index y ∈ allW) (mf : mfS y b nY As.length none) (hR : d + 1 ≤ R.frames ∧ 8 + (nY + 11) + 40 * d ≤ R.locals) (hcs : cells ≤ R.cells ∧ slots ≤ R.slots) (hstk : st = As.reverse ++ rest) (hst : (rest.map fun v => v.category).sum ≤ 8) (hdg : decode cc pc = .ok (.invokestatic index, 3))
    (kk : ∀ (ν' : Mm) (H1 : Heap) (locs1 : List Loc), PV ν' → dM G ν' H1 → dS G H0 H1 locs1 → W p l e R s m args below meth c H1 locs1 cells slots Q (F0 m (pc + 3) ls rest)) : W p l e R s m args below meth c H locs cells slots Q (F0 m pc ls st) := by
  subst hstk
  obtain ⟨m1, m3, m4, m5⟩ := mf
  refine va_callv (va_runS (As := As) (rest := rest) ⟨X.1, X.2.1, X.2.2.1, X.2.2.2.1, X.2.2.2.2.1⟩ (hc H.size) ⟨kB X m3 m4 hlink m5 hR, X.2.2.2.2.1 _ m1⟩ (kPreS X hM) rfl rfl hl rfl (lv_room hst) hdg hcs) hS (fun q _ h => kFree hS q h) (kFree hS) (fun u t H1 locs1 ht hvm hw hB _ _ hS1 => ?_)
  rw [ht] at hB
  exact kk u H1 locs1 hw hB hS1
end RW3
end
section
/-! ===== the words that the walks use, by their places in the tables ===== -/
theorem tb_in {w : Cond} (i : Nat) (h : tables_1[i]? = some w) : w ∈ lw_tbl := List.mem_append_right _ (List.mem_of_getElem? h)
theorem sl_in {w : Cond} (i : Nat) (h : (k2_sels lw_privs)[i]? = some w) : w ∈ lw_tbl := List.mem_append_left _ (List.mem_of_getElem? h)
theorem kc_L_20 : Cond.classLink RL 20 RX5 ∈ allW := allW_in (tb_in 17 (by decide +kernel)) rfl
theorem kl_L_55 : Cond.methodLink RL 55 yX5_init ∈ allW := allW_in (tb_in 19 (by decide +kernel)) rfl
theorem kl_X5_3 : Cond.methodLink RX5 3 objectInit ∈ allW := allW_in (tb_in 22 (by decide +kernel)) rfl
theorem kc_X5_9 : Cond.classLink RX5 9 RX1 ∈ allW := allW_in (tb_in 25 (by decide +kernel)) rfl
theorem kl_X5_11 : Cond.methodLinkNest RX5 11 yX1_init "CouponDesk" ∈ nestW := nestW_in (tb_in 27 (by decide +kernel)) rfl
theorem kl_X1_3 : Cond.methodLink RX1 3 objectInit ∈ allW := allW_in (tb_in 30 (by decide +kernel)) rfl
theorem kl_X1_9 : Cond.fieldLink RX1 9 "CouponDesk$Lot" "prices" "[I" ∈ allW := allW_in (tb_in 31 (by decide +kernel)) rfl
theorem kl_X5_77 : Cond.fieldLinkNest RX5 77 "CouponDesk$Lot" "prices" "[I" "CouponDesk" ∈ nestW := nestW_in (tb_in 32 (by decide +kernel)) rfl
theorem kl_X4_36 : Cond.fieldLinkNest RX4 36 "CouponDesk$Lot" "prices" "[I" "CouponDesk" ∈ nestW := nestW_in (tb_in 33 (by decide +kernel)) rfl
theorem kl_X1_15 : Cond.fieldLink RX1 15 "CouponDesk$Lot" "categories" "[I" ∈ allW := allW_in (tb_in 34 (by decide +kernel)) rfl
theorem kl_X4_35 : Cond.fieldLinkNest RX4 35 "CouponDesk$Lot" "categories" "[I" "CouponDesk" ∈ nestW := nestW_in (tb_in 35 (by decide +kernel)) rfl
theorem kl_X5_81 : Cond.fieldLinkNest RX5 81 "CouponDesk$Lot" "categories" "[I" "CouponDesk" ∈ nestW := nestW_in (tb_in 36 (by decide +kernel)) rfl
theorem kl_X1_18 : Cond.fieldLink RX1 18 "CouponDesk$Lot" "counts" "[I" ∈ allW := allW_in (tb_in 37 (by decide +kernel)) rfl
theorem kl_X4_30 : Cond.fieldLinkNest RX4 30 "CouponDesk$Lot" "counts" "[I" "CouponDesk" ∈ nestW := nestW_in (tb_in 38 (by decide +kernel)) rfl
theorem kl_X5_89 : Cond.fieldLinkNest RX5 89 "CouponDesk$Lot" "counts" "[I" "CouponDesk" ∈ nestW := nestW_in (tb_in 39 (by decide +kernel)) rfl
theorem kc_X5_16 : Cond.classLink RX5 16 RX0 ∈ allW := allW_in (tb_in 48 (by decide +kernel)) rfl
theorem kc_X5_22 : Cond.classLink RX5 22 RX2 ∈ allW := allW_in (tb_in 50 (by decide +kernel)) rfl
theorem kc_X5_28 : Cond.classLink RX5 28 RX4 ∈ allW := allW_in (tb_in 52 (by decide +kernel)) rfl
theorem kl_X5_30 : Cond.methodLinkNest RX5 30 yX4_init "CouponDesk" ∈ nestW := nestW_in (tb_in 54 (by decide +kernel)) rfl
theorem kl_X4_3 : Cond.methodLink RX4 3 objectInit ∈ allW := allW_in (tb_in 57 (by decide +kernel)) rfl
theorem kc_X4_18 : Cond.classLink RX4 18 "[[I" ∈ allW := allW_in (tb_in 58 (by decide +kernel)) rfl
theorem kl_X4_9 : Cond.fieldLink RX4 9 "CouponDesk$Tray" "articles" "[I" ∈ allW := allW_in (tb_in 60 (by decide +kernel)) rfl
theorem kl_X4_15 : Cond.fieldLink RX4 15 "CouponDesk$Tray" "categories" "[I" ∈ allW := allW_in (tb_in 61 (by decide +kernel)) rfl
theorem kl_X4_20 : Cond.fieldLink RX4 20 "CouponDesk$Tray" "rests" "[[I" ∈ allW := allW_in (tb_in 62 (by decide +kernel)) rfl
theorem kl_X4_23 : Cond.fieldLink RX4 23 "CouponDesk$Tray" "ranking" "[I" ∈ allW := allW_in (tb_in 63 (by decide +kernel)) rfl
theorem kl_X4_26 : Cond.fieldLink RX4 26 "CouponDesk$Tray" "count" "I" ∈ allW := allW_in (tb_in 64 (by decide +kernel)) rfl
theorem kc_X5_35 : Cond.classLink RX5 35 RX3 ∈ allW := allW_in (tb_in 76 (by decide +kernel)) rfl
theorem kl_X5_37 : Cond.methodLinkNest RX5 37 yX3_init "CouponDesk" ∈ nestW := nestW_in (tb_in 78 (by decide +kernel)) rfl
theorem kl_X3_3 : Cond.methodLink RX3 3 objectInit ∈ allW := allW_in (tb_in 81 (by decide +kernel)) rfl
theorem kl_X3_21 : Cond.constant RX3 21 (610001) ∈ allW := allW_in (tb_in 82 (by decide +kernel)) rfl
theorem kl_X3_9 : Cond.fieldLink RX3 9 "CouponDesk$Search" "leftOut" "I" ∈ allW := allW_in (tb_in 83 (by decide +kernel)) rfl
theorem kl_X3_15 : Cond.fieldLink RX3 15 "CouponDesk$Search" "usable" "I" ∈ allW := allW_in (tb_in 84 (by decide +kernel)) rfl
theorem kl_X5_292 : Cond.fieldLinkNest RX5 292 "CouponDesk$Search" "usable" "I" "CouponDesk" ∈ nestW := nestW_in (tb_in 85 (by decide +kernel)) rfl
theorem kl_X3_18 : Cond.fieldLink RX3 18 "CouponDesk$Search" "bestSet" "I" ∈ allW := allW_in (tb_in 86 (by decide +kernel)) rfl
theorem kl_X5_168 : Cond.fieldLinkNest RX5 168 "CouponDesk$Search" "bestSet" "I" "CouponDesk" ∈ nestW := nestW_in (tb_in 87 (by decide +kernel)) rfl
theorem kl_X3_22 : Cond.fieldLink RX3 22 "CouponDesk$Search" "leastTotal" "I" ∈ allW := allW_in (tb_in 88 (by decide +kernel)) rfl
theorem kl_X3_25 : Cond.fieldLink RX3 25 "CouponDesk$Search" "leastWithout" "I" ∈ allW := allW_in (tb_in 89 (by decide +kernel)) rfl
theorem kl_X5_55 : Cond.constant RX5 55 (1000000) ∈ allW := allW_in (tb_in 101 (by decide +kernel)) rfl
theorem kl_X5_59 : Cond.methodLinkNest RX5 59 yX0_init "CouponDesk" ∈ nestW := nestW_in (tb_in 103 (by decide +kernel)) rfl
theorem kl_X0_3 : Cond.methodLink RX0 3 objectInit ∈ allW := allW_in (tb_in 106 (by decide +kernel)) rfl
theorem kl_X0_9 : Cond.fieldLink RX0 9 "CouponDesk$Coupon" "kind" "I" ∈ allW := allW_in (tb_in 107 (by decide +kernel)) rfl
theorem kl_X4_45 : Cond.fieldLinkNest RX4 45 "CouponDesk$Coupon" "kind" "I" "CouponDesk" ∈ nestW := nestW_in (tb_in 108 (by decide +kernel)) rfl
theorem kl_X5_275 : Cond.fieldLinkNest RX5 275 "CouponDesk$Coupon" "kind" "I" "CouponDesk" ∈ nestW := nestW_in (tb_in 109 (by decide +kernel)) rfl
theorem kl_X0_15 : Cond.fieldLink RX0 15 "CouponDesk$Coupon" "value" "I" ∈ allW := allW_in (tb_in 110 (by decide +kernel)) rfl
theorem kl_X4_64 : Cond.fieldLinkNest RX4 64 "CouponDesk$Coupon" "value" "I" "CouponDesk" ∈ nestW := nestW_in (tb_in 111 (by decide +kernel)) rfl
theorem kl_X0_18 : Cond.fieldLink RX0 18 "CouponDesk$Coupon" "categories" "I" ∈ allW := allW_in (tb_in 112 (by decide +kernel)) rfl
theorem kl_X0_21 : Cond.fieldLink RX0 21 "CouponDesk$Coupon" "minimum" "I" ∈ allW := allW_in (tb_in 113 (by decide +kernel)) rfl
theorem kl_X0_24 : Cond.fieldLink RX0 24 "CouponDesk$Coupon" "group" "I" ∈ allW := allW_in (tb_in 114 (by decide +kernel)) rfl
theorem kl_X5_255 : Cond.fieldLinkNest RX5 255 "CouponDesk$Coupon" "group" "I" "CouponDesk" ∈ nestW := nestW_in (tb_in 115 (by decide +kernel)) rfl
theorem kl_X0_27 : Cond.fieldLink RX0 27 "CouponDesk$Coupon" "uses" "I" ∈ allW := allW_in (tb_in 116 (by decide +kernel)) rfl
theorem kl_X5_123 : Cond.fieldLinkNest RX5 123 "CouponDesk$Coupon" "uses" "I" "CouponDesk" ∈ nestW := nestW_in (tb_in 117 (by decide +kernel)) rfl
theorem kl_X5_60 : Cond.methodLinkNest RX5 60 yX2_init "CouponDesk" ∈ nestW := nestW_in (tb_in 132 (by decide +kernel)) rfl
theorem kl_X2_3 : Cond.methodLink RX2 3 objectInit ∈ allW := allW_in (tb_in 135 (by decide +kernel)) rfl
theorem kc_X2_9 : Cond.classLink RX2 9 RX1 ∈ allW := allW_in (tb_in 136 (by decide +kernel)) rfl
theorem kl_X2_11 : Cond.methodLinkNest RX2 11 yX1_init "CouponDesk" ∈ nestW := nestW_in (tb_in 137 (by decide +kernel)) rfl
theorem kl_X2_12 : Cond.fieldLink RX2 12 "CouponDesk$Order" "lot" "LCouponDesk$Lot;" ∈ allW := allW_in (tb_in 138 (by decide +kernel)) rfl
theorem kl_X5_197 : Cond.fieldLinkNest RX5 197 "CouponDesk$Order" "lot" "LCouponDesk$Lot;" "CouponDesk" ∈ nestW := nestW_in (tb_in 139 (by decide +kernel)) rfl
theorem kl_X2_18 : Cond.fieldLink RX2 18 "CouponDesk$Order" "acting" "I" ∈ allW := allW_in (tb_in 140 (by decide +kernel)) rfl
theorem kl_X5_206 : Cond.fieldLinkNest RX5 206 "CouponDesk$Order" "acting" "I" "CouponDesk" ∈ nestW := nestW_in (tb_in 141 (by decide +kernel)) rfl
theorem kl_X2_22 : Cond.fieldLink RX2 22 "CouponDesk$Order" "fee" "I" ∈ allW := allW_in (tb_in 142 (by decide +kernel)) rfl
theorem kl_X2_25 : Cond.fieldLink RX2 25 "CouponDesk$Order" "paid" "I" ∈ allW := allW_in (tb_in 143 (by decide +kernel)) rfl
theorem kl_X5_209 : Cond.fieldLinkNest RX5 209 "CouponDesk$Order" "paid" "I" "CouponDesk" ∈ nestW := nestW_in (tb_in 144 (by decide +kernel)) rfl
theorem kl_X5_12 : Cond.fieldLink RX5 12 "CouponDesk" "basket" "LCouponDesk$Lot;" ∈ allW := allW_in (tb_in 154 (by decide +kernel)) rfl
theorem kl_X5_18 : Cond.fieldLink RX5 18 "CouponDesk" "coupons" "[LCouponDesk$Coupon;" ∈ allW := allW_in (tb_in 155 (by decide +kernel)) rfl
theorem kl_X5_24 : Cond.fieldLink RX5 24 "CouponDesk" "orders" "[LCouponDesk$Order;" ∈ allW := allW_in (tb_in 156 (by decide +kernel)) rfl
theorem kl_X5_31 : Cond.fieldLink RX5 31 "CouponDesk" "tray" "LCouponDesk$Tray;" ∈ allW := allW_in (tb_in 157 (by decide +kernel)) rfl
theorem kl_X5_38 : Cond.fieldLink RX5 38 "CouponDesk" "search" "LCouponDesk$Search;" ∈ allW := allW_in (tb_in 158 (by decide +kernel)) rfl
theorem kl_X5_42 : Cond.fieldLink RX5 42 "CouponDesk" "articleCount" "I" ∈ allW := allW_in (tb_in 159 (by decide +kernel)) rfl
theorem kl_X5_46 : Cond.fieldLink RX5 46 "CouponDesk" "couponCount" "I" ∈ allW := allW_in (tb_in 160 (by decide +kernel)) rfl
theorem kl_X5_49 : Cond.fieldLink RX5 49 "CouponDesk" "orderCount" "I" ∈ allW := allW_in (tb_in 161 (by decide +kernel)) rfl
theorem kl_X5_52 : Cond.fieldLink RX5 52 "CouponDesk" "fee" "I" ∈ allW := allW_in (tb_in 162 (by decide +kernel)) rfl
theorem kl_X5_56 : Cond.fieldLink RX5 56 "CouponDesk" "limit" "I" ∈ allW := allW_in (tb_in 163 (by decide +kernel)) rfl
theorem kl_L_83 : Cond.methodLink RL 83 yX5_value ∈ allW := allW_in (tb_in 185 (by decide +kernel)) rfl
theorem kl_X5_92 : Cond.methodLinkNest RX5 92 yX1_pricesIn "CouponDesk" ∈ nestW := nestW_in (tb_in 189 (by decide +kernel)) rfl
theorem kl_L_60 : Cond.methodLink RL 60 yX5_setShipping ∈ allW := allW_in (tb_in 193 (by decide +kernel)) rfl
theorem kc_X5_65 : Cond.classLink RX5 65 "java/lang/IllegalArgumentException" ∈ allW := allW_in (tb_in 197 (by decide +kernel)) rfl
theorem kl_X5_69 : Cond.methodLink RX5 69 ⟨"java/lang/IllegalArgumentException", "<init>", "(Ljava/lang/String;)V"⟩ ∈ allW := allW_in (tb_in 239 (by decide +kernel)) rfl
theorem kl_L_71 : Cond.methodLink RL 71 yX5_isAllowed ∈ allW := allW_in (tb_in 266 (by decide +kernel)) rfl
theorem kl_X5_141 : Cond.methodLink RX5 141 yX5_needCoupons ∈ allW := allW_in (tb_in 270 (by decide +kernel)) rfl
theorem kl_X5_144 : Cond.methodLink RX5 144 yX5_isSetAllowed ∈ allW := allW_in (tb_in 275 (by decide +kernel)) rfl
theorem kl_X5_249 : Cond.methodLink RX5 249 yX5_contains ∈ allW := allW_in (tb_in 279 (by decide +kernel)) rfl
theorem kl_X5_128 : Cond.methodLinkNest RX5 128 yX0_isUsableFor "CouponDesk" ∈ nestW := nestW_in (tb_in 282 (by decide +kernel)) rfl
theorem kl_X0_36 : Cond.methodLink RX0 36 yX0_isReachedBy ∈ allW := allW_in (tb_in 286 (by decide +kernel)) rfl
theorem kl_X0_30 : Cond.methodLinkNest RX0 30 yX1_pricesIn "CouponDesk" ∈ nestW := nestW_in (tb_in 290 (by decide +kernel)) rfl
theorem kl_X5_252 : Cond.methodLink RX5 252 yX5_isGroupFree ∈ allW := allW_in (tb_in 291 (by decide +kernel)) rfl
theorem kl_L_80 : Cond.methodLink RL 80 yX5_goods ∈ allW := allW_in (tb_in 295 (by decide +kernel)) rfl
theorem kl_X5_148 : Cond.methodLink RX5 148 yX5_needAllowed ∈ allW := allW_in (tb_in 299 (by decide +kernel)) rfl
theorem kc_X5_72 : Cond.classLink RX5 72 "java/lang/IllegalStateException" ∈ allW := allW_in (tb_in 303 (by decide +kernel)) rfl
theorem kl_X5_76 : Cond.methodLink RX5 76 ⟨"java/lang/IllegalStateException", "<init>", "(Ljava/lang/String;)V"⟩ ∈ allW := allW_in (tb_in 313 (by decide +kernel)) rfl
theorem kl_X5_151 : Cond.methodLink RX5 151 yX5_goodsOf ∈ allW := allW_in (tb_in 319 (by decide +kernel)) rfl
theorem kl_X5_158 : Cond.methodLink RX5 158 yX5_layAndApply ∈ allW := allW_in (tb_in 323 (by decide +kernel)) rfl
theorem kl_X5_261 : Cond.methodLinkNest RX5 261 yX4_lay "CouponDesk" ∈ nestW := nestW_in (tb_in 327 (by decide +kernel)) rfl
theorem kl_X5_265 : Cond.methodLinkNest RX5 265 yX4_apply "CouponDesk" ∈ nestW := nestW_in (tb_in 331 (by decide +kernel)) rfl
theorem kl_X4_50 : Cond.methodLink RX4 50 yX4_takePercent ∈ allW := allW_in (tb_in 335 (by decide +kernel)) rfl
theorem kl_X4_60 : Cond.methodLinkNest RX4 60 yX0_isMatchedBy "CouponDesk" ∈ nestW := nestW_in (tb_in 339 (by decide +kernel)) rfl
theorem kl_X4_54 : Cond.methodLink RX4 54 yX4_takeAmount ∈ allW := allW_in (tb_in 343 (by decide +kernel)) rfl
theorem kl_X4_67 : Cond.methodLink RX4 67 yX4_matchedRests ∈ allW := allW_in (tb_in 347 (by decide +kernel)) rfl
theorem kl_X4_71 : Cond.methodLink RX4 71 Lib.Math.min.name ∈ allW := allW_in (tb_in 351 (by decide +kernel)) rfl
theorem kl_X4_77 : Cond.methodLink RX4 77 yX4_takeOnes ∈ allW := allW_in (tb_in 354 (by decide +kernel)) rfl
theorem kl_X4_57 : Cond.methodLink RX4 57 yX4_takeBundles ∈ allW := allW_in (tb_in 358 (by decide +kernel)) rfl
theorem kl_X4_81 : Cond.methodLink RX4 81 yX4_rankMatched ∈ allW := allW_in (tb_in 362 (by decide +kernel)) rfl
theorem kl_X5_269 : Cond.methodLinkNest RX5 269 yX4_restsInRow "CouponDesk" ∈ nestW := nestW_in (tb_in 366 (by decide +kernel)) rfl
theorem kl_L_67 : Cond.methodLink RL 67 yX5_total ∈ allW := allW_in (tb_in 370 (by decide +kernel)) rfl
theorem kl_X5_155 : Cond.methodLink RX5 155 yX5_feeFor ∈ allW := allW_in (tb_in 374 (by decide +kernel)) rfl
theorem kl_X5_177 : Cond.methodLinkNest RX5 177 yX1_countOfPieces "CouponDesk" ∈ nestW := nestW_in (tb_in 378 (by decide +kernel)) rfl
theorem kl_X5_272 : Cond.methodLink RX5 272 yX5_hasFreight ∈ allW := allW_in (tb_in 382 (by decide +kernel)) rfl
theorem kl_L_63 : Cond.methodLink RL 63 yX5_best ∈ allW := allW_in (tb_in 386 (by decide +kernel)) rfl
theorem kl_X5_165 : Cond.methodLink RX5 165 yX5_searchSets ∈ allW := allW_in (tb_in 390 (by decide +kernel)) rfl
theorem kl_X5_278 : Cond.methodLink RX5 278 yX5_usableForBasket ∈ allW := allW_in (tb_in 394 (by decide +kernel)) rfl
theorem kl_X5_281 : Cond.methodLinkNest RX5 281 yX3_begin "CouponDesk" ∈ nestW := nestW_in (tb_in 398 (by decide +kernel)) rfl
theorem kl_X5_285 : Cond.methodLink RX5 285 yX5_extend ∈ allW := allW_in (tb_in 402 (by decide +kernel)) rfl
theorem kl_X5_289 : Cond.methodLinkNest RX5 289 yX3_offer "CouponDesk" ∈ nestW := nestW_in (tb_in 405 (by decide +kernel)) rfl
theorem kl_X3_28 : Cond.methodLink RX3 28 Lib.Math.min.name ∈ allW := allW_in (tb_in 409 (by decide +kernel)) rfl
theorem kl_X3_34 : Cond.methodLink RX3 34 yX3_isBetter ∈ allW := allW_in (tb_in 410 (by decide +kernel)) rfl
theorem kl_X3_38 : Cond.methodLink RX3 38 yJ6_bitCount_0f7a4 ∈ allW := allW_in (tb_in 414 (by decide +kernel)) rfl
theorem kl_J6_265 : Cond.constant RJ6 265 (1431655765) ∈ allW := allW_in (tb_in 417 (by decide +kernel)) rfl
theorem kl_J6_266 : Cond.constant RJ6 266 (858993459) ∈ allW := allW_in (tb_in 418 (by decide +kernel)) rfl
theorem kl_J6_267 : Cond.constant RJ6 267 (252645135) ∈ allW := allW_in (tb_in 419 (by decide +kernel)) rfl
theorem kl_X5_295 : Cond.methodLinkNest RX5 295 yX4_copyRow "CouponDesk" ∈ nestW := nestW_in (tb_in 420 (by decide +kernel)) rfl
theorem kl_X4_39 : Cond.methodLink RX4 39 arraycopyName ∈ allW := allW_in (tb_in 424 (by decide +kernel)) rfl
theorem kl_L_86 : Cond.methodLink RL 86 yX5_buy ∈ allW := allW_in (tb_in 427 (by decide +kernel)) rfl
theorem kl_X5_185 : Cond.methodLinkNest RX5 185 yX2_become "CouponDesk" ∈ nestW := nestW_in (tb_in 433 (by decide +kernel)) rfl
theorem kl_X2_28 : Cond.methodLinkNest RX2 28 yX1_copyFrom "CouponDesk" ∈ nestW := nestW_in (tb_in 437 (by decide +kernel)) rfl
theorem kl_X1_21 : Cond.methodLink RX1 21 arraycopyName ∈ allW := allW_in (tb_in 441 (by decide +kernel)) rfl
theorem kl_X5_188 : Cond.methodLink RX5 188 yX5_useUp ∈ allW := allW_in (tb_in 442 (by decide +kernel)) rfl
theorem kl_X5_191 : Cond.methodLinkNest RX5 191 yX1_removeAllPieces "CouponDesk" ∈ nestW := nestW_in (tb_in 446 (by decide +kernel)) rfl
theorem kl_X1_27 : Cond.methodLink RX1 27 yJ7_fill_53178 ∈ allW := allW_in (tb_in 450 (by decide +kernel)) rfl
theorem kl_L_95 : Cond.methodLink RL 95 yX5_giveBack ∈ allW := allW_in (tb_in 453 (by decide +kernel)) rfl
theorem kl_X5_194 : Cond.methodLink RX5 194 yX5_needOrder ∈ allW := allW_in (tb_in 457 (by decide +kernel)) rfl
theorem kc_X5_212 : Cond.classLink RX5 212 "java/lang/IndexOutOfBoundsException" ∈ allW := allW_in (tb_in 461 (by decide +kernel)) rfl
theorem kl_X5_216 : Cond.methodLink RX5 216 ⟨"java/lang/IndexOutOfBoundsException", "<init>", "(Ljava/lang/String;)V"⟩ ∈ allW := allW_in (tb_in 471 (by decide +kernel)) rfl
theorem kl_X5_84 : Cond.methodLink RX5 84 yX5_needArticle ∈ allW := allW_in (tb_in 477 (by decide +kernel)) rfl
theorem kl_X5_202 : Cond.methodLink RX5 202 yX5_stillReached ∈ allW := allW_in (tb_in 483 (by decide +kernel)) rfl
theorem kl_X5_258 : Cond.methodLinkNest RX5 258 yX0_isReachedBy "CouponDesk" ∈ nestW := nestW_in (tb_in 487 (by decide +kernel)) rfl
theorem kl_L_89 : Cond.methodLink RL 89 yX5_order ∈ allW := allW_in (tb_in 488 (by decide +kernel)) rfl
theorem kl_X5_217 : Cond.methodLinkNest RX5 217 yX2_tell "CouponDesk" ∈ nestW := nestW_in (tb_in 493 (by decide +kernel)) rfl
theorem kl_X2_32 : Cond.methodLinkNest RX2 32 yX1_countOfPieces "CouponDesk" ∈ nestW := nestW_in (tb_in 497 (by decide +kernel)) rfl
theorem kl_X2_36 : Cond.methodLinkNest RX2 36 yX1_pricesIn "CouponDesk" ∈ nestW := nestW_in (tb_in 498 (by decide +kernel)) rfl
theorem kl_L_92 : Cond.methodLink RL 92 yX5_pieces ∈ allW := allW_in (tb_in 499 (by decide +kernel)) rfl
theorem kl_L_15 : Cond.methodLink RL 15 yL_below ∈ allW := allW_in (tb_in 503 (by decide +kernel)) rfl
theorem kl_L_7 : Cond.constant RL 7 (2147483647) ∈ allW := allW_in (tb_in 506 (by decide +kernel)) rfl
theorem kl_L_9 : Cond.methodLink RL 9 yL_cell ∈ allW := allW_in (tb_in 507 (by decide +kernel)) rfl
theorem kl_L_8 : Cond.constant RL 8 (790386105) ∈ allW := allW_in (tb_in 510 (by decide +kernel)) rfl
theorem kl_L_56 : Cond.methodLink RL 56 yL_build ∈ allW := allW_in (tb_in 511 (by decide +kernel)) rfl
theorem kl_L_19 : Cond.methodLink RL 19 yX5_addArticle ∈ allW := allW_in (tb_in 514 (by decide +kernel)) rfl
theorem kl_X5_61 : Cond.methodLink RX5 61 yX5_needPrice ∈ allW := allW_in (tb_in 518 (by decide +kernel)) rfl
theorem kl_L_24 : Cond.methodLink RL 24 yX5_put ∈ allW := allW_in (tb_in 524 (by decide +kernel)) rfl
theorem kl_L_27 : Cond.methodLink RL 27 yX5_addCoupon ∈ allW := allW_in (tb_in 529 (by decide +kernel)) rfl
theorem kl_X5_100 : Cond.methodLink RX5 100 yX5_isValueOfKind ∈ allW := allW_in (tb_in 533 (by decide +kernel)) rfl
theorem kl_X5_248 : Cond.constant RX5 248 (100000) ∈ allW := allW_in (tb_in 536 (by decide +kernel)) rfl
theorem kl_X5_114 : Cond.methodLinkNest RX5 114 yX0_become "CouponDesk" ∈ nestW := nestW_in (tb_in 542 (by decide +kernel)) rfl
theorem kl_L_75 : Cond.methodLink RL 75 yJ6_bitCount_0f7a4 ∈ allW := allW_in (tb_in 546 (by decide +kernel)) rfl
theorem mf_J6_bitCount_0f7a4 : mfS yJ6_bitCount_0f7a4 cJ6_bitCount_0f7a4 1 1 (some .int) := ⟨allW_in (tb_in 415 (by decide +kernel)) rfl, allW_in (tb_in 14 (by decide +kernel)) rfl, allW_in (tb_in 416 (by decide +kernel)) rfl, ⟨by decide +kernel, by decide +kernel, by decide +kernel⟩⟩
theorem mf_J7_fill_53178 : mfS yJ7_fill_53178 cJ7_fill_53178 4 2 none := ⟨allW_in (tb_in 451 (by decide +kernel)) rfl, allW_in (tb_in 16 (by decide +kernel)) rfl, allW_in (tb_in 452 (by decide +kernel)) rfl, ⟨by decide +kernel, by decide +kernel, by decide +kernel⟩⟩
theorem mf_J9_min_7cf53 : mfS yJ9_min_7cf53 cJ9_min_7cf53 2 2 (some .int) := ⟨allW_in (tb_in 352 (by decide +kernel)) rfl, allW_in (tb_in 13 (by decide +kernel)) rfl, allW_in (tb_in 353 (by decide +kernel)) rfl, ⟨by decide +kernel, by decide +kernel, by decide +kernel⟩⟩
theorem mf_X0_become : mfV yX0_become cX0_become 6 5 none := ⟨allW_in (tb_in 544 (by decide +kernel)) rfl, allW_in (sl_in 37 (by decide +kernel)) rfl, allW_in (tb_in 5 (by decide +kernel)) rfl, allW_in (tb_in 545 (by decide +kernel)) rfl, ⟨by decide +kernel, by decide +kernel, by decide +kernel⟩⟩
theorem mf_X0_isMatchedBy : mfV yX0_isMatchedBy cX0_isMatchedBy 2 1 (some .boolean) := ⟨allW_in (tb_in 341 (by decide +kernel)) rfl, allW_in (sl_in 13 (by decide +kernel)) rfl, allW_in (tb_in 5 (by decide +kernel)) rfl, allW_in (tb_in 342 (by decide +kernel)) rfl, ⟨by decide +kernel, by decide +kernel, by decide +kernel⟩⟩
theorem mf_X0_isReachedBy : mfV yX0_isReachedBy cX0_isReachedBy 3 1 (some .boolean) := ⟨allW_in (tb_in 288 (by decide +kernel)) rfl, allW_in (sl_in 5 (by decide +kernel)) rfl, allW_in (tb_in 5 (by decide +kernel)) rfl, allW_in (tb_in 289 (by decide +kernel)) rfl, ⟨by decide +kernel, by decide +kernel, by decide +kernel⟩⟩
theorem mf_X0_isUsableFor : mfV yX0_isUsableFor cX0_isUsableFor 2 1 (some .boolean) := ⟨allW_in (tb_in 284 (by decide +kernel)) rfl, allW_in (sl_in 4 (by decide +kernel)) rfl, allW_in (tb_in 5 (by decide +kernel)) rfl, allW_in (tb_in 285 (by decide +kernel)) rfl, ⟨by decide +kernel, by decide +kernel, by decide +kernel⟩⟩
theorem mf_X1_copyFrom : mfV yX1_copyFrom cX1_copyFrom 2 1 none := ⟨allW_in (tb_in 439 (by decide +kernel)) rfl, allW_in (sl_in 30 (by decide +kernel)) rfl, allW_in (tb_in 2 (by decide +kernel)) rfl, allW_in (tb_in 440 (by decide +kernel)) rfl, ⟨by decide +kernel, by decide +kernel, by decide +kernel⟩⟩
theorem mf_X1_countOfPieces : mfV yX1_countOfPieces cX1_countOfPieces 3 0 (some .int) := ⟨allW_in (tb_in 380 (by decide +kernel)) rfl, allW_in (sl_in 21 (by decide +kernel)) rfl, allW_in (tb_in 2 (by decide +kernel)) rfl, allW_in (tb_in 381 (by decide +kernel)) rfl, ⟨by decide +kernel, by decide +kernel, by decide +kernel⟩⟩
theorem mf_X1_pricesIn : mfV yX1_pricesIn cX1_pricesIn 4 1 (some .int) := ⟨allW_in (tb_in 191 (by decide +kernel)) rfl, allW_in (sl_in 0 (by decide +kernel)) rfl, allW_in (tb_in 2 (by decide +kernel)) rfl, allW_in (tb_in 192 (by decide +kernel)) rfl, ⟨by decide +kernel, by decide +kernel, by decide +kernel⟩⟩
theorem mf_X1_removeAllPieces : mfV yX1_removeAllPieces cX1_removeAllPieces 1 0 none := ⟨allW_in (tb_in 448 (by decide +kernel)) rfl, allW_in (sl_in 32 (by decide +kernel)) rfl, allW_in (tb_in 2 (by decide +kernel)) rfl, allW_in (tb_in 449 (by decide +kernel)) rfl, ⟨by decide +kernel, by decide +kernel, by decide +kernel⟩⟩
theorem mf_X2_become : mfV yX2_become cX2_become 5 4 none := ⟨allW_in (tb_in 435 (by decide +kernel)) rfl, allW_in (sl_in 29 (by decide +kernel)) rfl, allW_in (tb_in 6 (by decide +kernel)) rfl, allW_in (tb_in 436 (by decide +kernel)) rfl, ⟨by decide +kernel, by decide +kernel, by decide +kernel⟩⟩
theorem mf_X2_tell : mfV yX2_tell cX2_tell 2 1 (some .int) := ⟨allW_in (tb_in 495 (by decide +kernel)) rfl, allW_in (sl_in 36 (by decide +kernel)) rfl, allW_in (tb_in 6 (by decide +kernel)) rfl, allW_in (tb_in 496 (by decide +kernel)) rfl, ⟨by decide +kernel, by decide +kernel, by decide +kernel⟩⟩
theorem mf_X3_begin : mfV yX3_begin cX3_begin 3 2 none := ⟨allW_in (tb_in 400 (by decide +kernel)) rfl, allW_in (sl_in 25 (by decide +kernel)) rfl, allW_in (tb_in 4 (by decide +kernel)) rfl, allW_in (tb_in 401 (by decide +kernel)) rfl, ⟨by decide +kernel, by decide +kernel, by decide +kernel⟩⟩
theorem mf_X3_isBetter : mfV yX3_isBetter cX3_isBetter 4 2 (some .boolean) := ⟨allW_in (tb_in 412 (by decide +kernel)) rfl, allW_in (sl_in 27 (by decide +kernel)) rfl, allW_in (tb_in 4 (by decide +kernel)) rfl, allW_in (tb_in 413 (by decide +kernel)) rfl, ⟨by decide +kernel, by decide +kernel, by decide +kernel⟩⟩
theorem mf_X3_offer : mfV yX3_offer cX3_offer 3 2 none := ⟨allW_in (tb_in 407 (by decide +kernel)) rfl, allW_in (sl_in 26 (by decide +kernel)) rfl, allW_in (tb_in 4 (by decide +kernel)) rfl, allW_in (tb_in 408 (by decide +kernel)) rfl, ⟨by decide +kernel, by decide +kernel, by decide +kernel⟩⟩
theorem mf_X4_apply : mfV yX4_apply cX4_apply 3 2 none := ⟨allW_in (tb_in 333 (by decide +kernel)) rfl, allW_in (sl_in 11 (by decide +kernel)) rfl, allW_in (tb_in 3 (by decide +kernel)) rfl, allW_in (tb_in 334 (by decide +kernel)) rfl, ⟨by decide +kernel, by decide +kernel, by decide +kernel⟩⟩
theorem mf_X4_copyRow : mfV yX4_copyRow cX4_copyRow 3 2 none := ⟨allW_in (tb_in 422 (by decide +kernel)) rfl, allW_in (sl_in 28 (by decide +kernel)) rfl, allW_in (tb_in 3 (by decide +kernel)) rfl, allW_in (tb_in 423 (by decide +kernel)) rfl, ⟨by decide +kernel, by decide +kernel, by decide +kernel⟩⟩
theorem mf_X4_lay : mfV yX4_lay cX4_lay 5 1 none := ⟨allW_in (tb_in 329 (by decide +kernel)) rfl, allW_in (sl_in 10 (by decide +kernel)) rfl, allW_in (tb_in 3 (by decide +kernel)) rfl, allW_in (tb_in 330 (by decide +kernel)) rfl, ⟨by decide +kernel, by decide +kernel, by decide +kernel⟩⟩
theorem mf_X4_matchedRests : mfV yX4_matchedRests cX4_matchedRests 5 2 (some .int) := ⟨allW_in (tb_in 349 (by decide +kernel)) rfl, allW_in (sl_in 15 (by decide +kernel)) rfl, allW_in (tb_in 3 (by decide +kernel)) rfl, allW_in (tb_in 350 (by decide +kernel)) rfl, ⟨by decide +kernel, by decide +kernel, by decide +kernel⟩⟩
theorem mf_X4_rankMatched : mfV yX4_rankMatched cX4_rankMatched 6 2 (some .int) := ⟨allW_in (tb_in 364 (by decide +kernel)) rfl, allW_in (sl_in 18 (by decide +kernel)) rfl, allW_in (tb_in 3 (by decide +kernel)) rfl, allW_in (tb_in 365 (by decide +kernel)) rfl, ⟨by decide +kernel, by decide +kernel, by decide +kernel⟩⟩
theorem mf_X4_restsInRow : mfV yX4_restsInRow cX4_restsInRow 5 1 (some .int) := ⟨allW_in (tb_in 368 (by decide +kernel)) rfl, allW_in (sl_in 19 (by decide +kernel)) rfl, allW_in (tb_in 3 (by decide +kernel)) rfl, allW_in (tb_in 369 (by decide +kernel)) rfl, ⟨by decide +kernel, by decide +kernel, by decide +kernel⟩⟩
theorem mf_X4_takeAmount : mfV yX4_takeAmount cX4_takeAmount 8 2 none := ⟨allW_in (tb_in 345 (by decide +kernel)) rfl, allW_in (sl_in 14 (by decide +kernel)) rfl, allW_in (tb_in 3 (by decide +kernel)) rfl, allW_in (tb_in 346 (by decide +kernel)) rfl, ⟨by decide +kernel, by decide +kernel, by decide +kernel⟩⟩
theorem mf_X4_takeBundles : mfV yX4_takeBundles cX4_takeBundles 6 2 none := ⟨allW_in (tb_in 360 (by decide +kernel)) rfl, allW_in (sl_in 17 (by decide +kernel)) rfl, allW_in (tb_in 3 (by decide +kernel)) rfl, allW_in (tb_in 361 (by decide +kernel)) rfl, ⟨by decide +kernel, by decide +kernel, by decide +kernel⟩⟩
theorem mf_X4_takeOnes : mfV yX4_takeOnes cX4_takeOnes 6 3 none := ⟨allW_in (tb_in 356 (by decide +kernel)) rfl, allW_in (sl_in 16 (by decide +kernel)) rfl, allW_in (tb_in 3 (by decide +kernel)) rfl, allW_in (tb_in 357 (by decide +kernel)) rfl, ⟨by decide +kernel, by decide +kernel, by decide +kernel⟩⟩
theorem mf_X4_takePercent : mfV yX4_takePercent cX4_takePercent 4 2 none := ⟨allW_in (tb_in 337 (by decide +kernel)) rfl, allW_in (sl_in 12 (by decide +kernel)) rfl, allW_in (tb_in 3 (by decide +kernel)) rfl, allW_in (tb_in 338 (by decide +kernel)) rfl, ⟨by decide +kernel, by decide +kernel, by decide +kernel⟩⟩
theorem mf_X5_addArticle : mfV yX5_addArticle cX5_addArticle 4 2 (some .int) := ⟨allW_in (tb_in 515 (by decide +kernel)) rfl, allW_in (tb_in 516 (by decide +kernel)) rfl, allW_in (tb_in 1 (by decide +kernel)) rfl, allW_in (tb_in 517 (by decide +kernel)) rfl, ⟨by decide +kernel, by decide +kernel, by decide +kernel⟩⟩
theorem mf_X5_addCoupon : mfV yX5_addCoupon cX5_addCoupon 7 5 (some .int) := ⟨allW_in (tb_in 530 (by decide +kernel)) rfl, allW_in (tb_in 531 (by decide +kernel)) rfl, allW_in (tb_in 1 (by decide +kernel)) rfl, allW_in (tb_in 532 (by decide +kernel)) rfl, ⟨by decide +kernel, by decide +kernel, by decide +kernel⟩⟩
theorem mf_X5_best : mfV yX5_best cX5_best 1 0 (some .int) := ⟨allW_in (tb_in 387 (by decide +kernel)) rfl, allW_in (tb_in 388 (by decide +kernel)) rfl, allW_in (tb_in 1 (by decide +kernel)) rfl, allW_in (tb_in 389 (by decide +kernel)) rfl, ⟨by decide +kernel, by decide +kernel, by decide +kernel⟩⟩
theorem mf_X5_buy : mfV yX5_buy cX5_buy 4 1 (some .int) := ⟨allW_in (tb_in 428 (by decide +kernel)) rfl, allW_in (tb_in 429 (by decide +kernel)) rfl, allW_in (tb_in 1 (by decide +kernel)) rfl, allW_in (tb_in 430 (by decide +kernel)) rfl, ⟨by decide +kernel, by decide +kernel, by decide +kernel⟩⟩
theorem mf_X5_contains : mfS yX5_contains cX5_contains 2 2 (some .boolean) := ⟨allW_in (tb_in 280 (by decide +kernel)) rfl, allW_in (tb_in 1 (by decide +kernel)) rfl, allW_in (tb_in 281 (by decide +kernel)) rfl, ⟨by decide +kernel, by decide +kernel, by decide +kernel⟩⟩
theorem mf_X5_extend : mfS yX5_extend cX5_extend 6 4 none := ⟨allW_in (tb_in 403 (by decide +kernel)) rfl, allW_in (tb_in 1 (by decide +kernel)) rfl, allW_in (tb_in 404 (by decide +kernel)) rfl, ⟨by decide +kernel, by decide +kernel, by decide +kernel⟩⟩
theorem mf_X5_feeFor : mfV yX5_feeFor cX5_feeFor 3 2 (some .int) := ⟨allW_in (tb_in 376 (by decide +kernel)) rfl, allW_in (sl_in 20 (by decide +kernel)) rfl, allW_in (tb_in 1 (by decide +kernel)) rfl, allW_in (tb_in 377 (by decide +kernel)) rfl, ⟨by decide +kernel, by decide +kernel, by decide +kernel⟩⟩
theorem mf_X5_giveBack : mfV yX5_giveBack cX5_giveBack 7 3 (some .int) := ⟨allW_in (tb_in 454 (by decide +kernel)) rfl, allW_in (tb_in 455 (by decide +kernel)) rfl, allW_in (tb_in 1 (by decide +kernel)) rfl, allW_in (tb_in 456 (by decide +kernel)) rfl, ⟨by decide +kernel, by decide +kernel, by decide +kernel⟩⟩
theorem mf_X5_goods : mfV yX5_goods cX5_goods 2 1 (some .int) := ⟨allW_in (tb_in 296 (by decide +kernel)) rfl, allW_in (tb_in 297 (by decide +kernel)) rfl, allW_in (tb_in 1 (by decide +kernel)) rfl, allW_in (tb_in 298 (by decide +kernel)) rfl, ⟨by decide +kernel, by decide +kernel, by decide +kernel⟩⟩
theorem mf_X5_goodsOf : mfV yX5_goodsOf cX5_goodsOf 3 2 (some .int) := ⟨allW_in (tb_in 321 (by decide +kernel)) rfl, allW_in (sl_in 8 (by decide +kernel)) rfl, allW_in (tb_in 1 (by decide +kernel)) rfl, allW_in (tb_in 322 (by decide +kernel)) rfl, ⟨by decide +kernel, by decide +kernel, by decide +kernel⟩⟩
theorem mf_X5_hasFreight : mfV yX5_hasFreight cX5_hasFreight 3 1 (some .boolean) := ⟨allW_in (tb_in 384 (by decide +kernel)) rfl, allW_in (sl_in 22 (by decide +kernel)) rfl, allW_in (tb_in 1 (by decide +kernel)) rfl, allW_in (tb_in 385 (by decide +kernel)) rfl, ⟨by decide +kernel, by decide +kernel, by decide +kernel⟩⟩
theorem mf_X5_isAllowed : mfV yX5_isAllowed cX5_isAllowed 2 1 (some .boolean) := ⟨allW_in (tb_in 267 (by decide +kernel)) rfl, allW_in (tb_in 268 (by decide +kernel)) rfl, allW_in (tb_in 1 (by decide +kernel)) rfl, allW_in (tb_in 269 (by decide +kernel)) rfl, ⟨by decide +kernel, by decide +kernel, by decide +kernel⟩⟩
theorem mf_X5_isGroupFree : mfV yX5_isGroupFree cX5_isGroupFree 5 2 (some .boolean) := ⟨allW_in (tb_in 293 (by decide +kernel)) rfl, allW_in (sl_in 6 (by decide +kernel)) rfl, allW_in (tb_in 1 (by decide +kernel)) rfl, allW_in (tb_in 294 (by decide +kernel)) rfl, ⟨by decide +kernel, by decide +kernel, by decide +kernel⟩⟩
theorem mf_X5_isSetAllowed : mfV yX5_isSetAllowed cX5_isSetAllowed 4 1 (some .boolean) := ⟨allW_in (tb_in 277 (by decide +kernel)) rfl, allW_in (sl_in 3 (by decide +kernel)) rfl, allW_in (tb_in 1 (by decide +kernel)) rfl, allW_in (tb_in 278 (by decide +kernel)) rfl, ⟨by decide +kernel, by decide +kernel, by decide +kernel⟩⟩
theorem mf_X5_isValueOfKind : mfS yX5_isValueOfKind cX5_isValueOfKind 2 2 (some .boolean) := ⟨allW_in (tb_in 534 (by decide +kernel)) rfl, allW_in (tb_in 1 (by decide +kernel)) rfl, allW_in (tb_in 535 (by decide +kernel)) rfl, ⟨by decide +kernel, by decide +kernel, by decide +kernel⟩⟩
theorem mf_X5_layAndApply : mfV yX5_layAndApply cX5_layAndApply 4 2 none := ⟨allW_in (tb_in 325 (by decide +kernel)) rfl, allW_in (sl_in 9 (by decide +kernel)) rfl, allW_in (tb_in 1 (by decide +kernel)) rfl, allW_in (tb_in 326 (by decide +kernel)) rfl, ⟨by decide +kernel, by decide +kernel, by decide +kernel⟩⟩
theorem mf_X5_needAllowed : mfV yX5_needAllowed cX5_needAllowed 2 1 none := ⟨allW_in (tb_in 301 (by decide +kernel)) rfl, allW_in (sl_in 7 (by decide +kernel)) rfl, allW_in (tb_in 1 (by decide +kernel)) rfl, allW_in (tb_in 302 (by decide +kernel)) rfl, ⟨by decide +kernel, by decide +kernel, by decide +kernel⟩⟩
theorem mf_X5_needArticle : mfV yX5_needArticle cX5_needArticle 2 1 none := ⟨allW_in (tb_in 479 (by decide +kernel)) rfl, allW_in (sl_in 34 (by decide +kernel)) rfl, allW_in (tb_in 1 (by decide +kernel)) rfl, allW_in (tb_in 480 (by decide +kernel)) rfl, ⟨by decide +kernel, by decide +kernel, by decide +kernel⟩⟩
theorem mf_X5_needCoupons : mfV yX5_needCoupons cX5_needCoupons 2 1 none := ⟨allW_in (tb_in 272 (by decide +kernel)) rfl, allW_in (sl_in 2 (by decide +kernel)) rfl, allW_in (tb_in 1 (by decide +kernel)) rfl, allW_in (tb_in 273 (by decide +kernel)) rfl, ⟨by decide +kernel, by decide +kernel, by decide +kernel⟩⟩
theorem mf_X5_needOrder : mfV yX5_needOrder cX5_needOrder 2 1 none := ⟨allW_in (tb_in 459 (by decide +kernel)) rfl, allW_in (sl_in 33 (by decide +kernel)) rfl, allW_in (tb_in 1 (by decide +kernel)) rfl, allW_in (tb_in 460 (by decide +kernel)) rfl, ⟨by decide +kernel, by decide +kernel, by decide +kernel⟩⟩
theorem mf_X5_needPrice : mfS yX5_needPrice cX5_needPrice 1 1 none := ⟨allW_in (tb_in 519 (by decide +kernel)) rfl, allW_in (tb_in 1 (by decide +kernel)) rfl, allW_in (tb_in 520 (by decide +kernel)) rfl, ⟨by decide +kernel, by decide +kernel, by decide +kernel⟩⟩
theorem mf_X5_order : mfV yX5_order cX5_order 3 2 (some .int) := ⟨allW_in (tb_in 489 (by decide +kernel)) rfl, allW_in (tb_in 490 (by decide +kernel)) rfl, allW_in (tb_in 1 (by decide +kernel)) rfl, allW_in (tb_in 491 (by decide +kernel)) rfl, ⟨by decide +kernel, by decide +kernel, by decide +kernel⟩⟩
theorem mf_X5_pieces : mfV yX5_pieces cX5_pieces 3 2 (some .int) := ⟨allW_in (tb_in 500 (by decide +kernel)) rfl, allW_in (tb_in 501 (by decide +kernel)) rfl, allW_in (tb_in 1 (by decide +kernel)) rfl, allW_in (tb_in 502 (by decide +kernel)) rfl, ⟨by decide +kernel, by decide +kernel, by decide +kernel⟩⟩
theorem mf_X5_put : mfV yX5_put cX5_put 4 2 (some .int) := ⟨allW_in (tb_in 525 (by decide +kernel)) rfl, allW_in (tb_in 526 (by decide +kernel)) rfl, allW_in (tb_in 1 (by decide +kernel)) rfl, allW_in (tb_in 527 (by decide +kernel)) rfl, ⟨by decide +kernel, by decide +kernel, by decide +kernel⟩⟩
theorem mf_X5_searchSets : mfV yX5_searchSets cX5_searchSets 2 1 none := ⟨allW_in (tb_in 392 (by decide +kernel)) rfl, allW_in (sl_in 23 (by decide +kernel)) rfl, allW_in (tb_in 1 (by decide +kernel)) rfl, allW_in (tb_in 393 (by decide +kernel)) rfl, ⟨by decide +kernel, by decide +kernel, by decide +kernel⟩⟩
theorem mf_X5_setShipping : mfV yX5_setShipping cX5_setShipping 4 2 (some .int) := ⟨allW_in (tb_in 194 (by decide +kernel)) rfl, allW_in (tb_in 195 (by decide +kernel)) rfl, allW_in (tb_in 1 (by decide +kernel)) rfl, allW_in (tb_in 196 (by decide +kernel)) rfl, ⟨by decide +kernel, by decide +kernel, by decide +kernel⟩⟩
theorem mf_X5_stillReached : mfV yX5_stillReached cX5_stillReached 4 1 (some .int) := ⟨allW_in (tb_in 485 (by decide +kernel)) rfl, allW_in (sl_in 35 (by decide +kernel)) rfl, allW_in (tb_in 1 (by decide +kernel)) rfl, allW_in (tb_in 486 (by decide +kernel)) rfl, ⟨by decide +kernel, by decide +kernel, by decide +kernel⟩⟩
theorem mf_X5_total : mfV yX5_total cX5_total 3 1 (some .int) := ⟨allW_in (tb_in 371 (by decide +kernel)) rfl, allW_in (tb_in 372 (by decide +kernel)) rfl, allW_in (tb_in 1 (by decide +kernel)) rfl, allW_in (tb_in 373 (by decide +kernel)) rfl, ⟨by decide +kernel, by decide +kernel, by decide +kernel⟩⟩
theorem mf_X5_usableForBasket : mfV yX5_usableForBasket cX5_usableForBasket 3 0 (some .int) := ⟨allW_in (tb_in 396 (by decide +kernel)) rfl, allW_in (sl_in 24 (by decide +kernel)) rfl, allW_in (tb_in 1 (by decide +kernel)) rfl, allW_in (tb_in 397 (by decide +kernel)) rfl, ⟨by decide +kernel, by decide +kernel, by decide +kernel⟩⟩
theorem mf_X5_useUp : mfV yX5_useUp cX5_useUp 3 1 none := ⟨allW_in (tb_in 444 (by decide +kernel)) rfl, allW_in (sl_in 31 (by decide +kernel)) rfl, allW_in (tb_in 1 (by decide +kernel)) rfl, allW_in (tb_in 445 (by decide +kernel)) rfl, ⟨by decide +kernel, by decide +kernel, by decide +kernel⟩⟩
theorem mf_X5_value : mfV yX5_value cX5_value 1 0 (some .int) := ⟨allW_in (tb_in 186 (by decide +kernel)) rfl, allW_in (tb_in 187 (by decide +kernel)) rfl, allW_in (tb_in 1 (by decide +kernel)) rfl, allW_in (tb_in 188 (by decide +kernel)) rfl, ⟨by decide +kernel, by decide +kernel, by decide +kernel⟩⟩
theorem ki_X0 : Cond.instantiable RX0 6 ∈ allW := allW_in (tb_in 102 (by decide +kernel)) rfl
theorem kn_X0 : Cond.initialized RX0 ∈ allW := allW_in (tb_in 5 (by decide +kernel)) rfl
theorem mi_X0 : Cond.instanceMethod yX0_init ∈ allW ∧ Cond.code yX0_init cX0_init 1 none ∈ allW := ⟨allW_in (tb_in 104 (by decide +kernel)) rfl, allW_in (tb_in 105 (by decide +kernel)) rfl⟩
theorem ki_X1 : Cond.instantiable RX1 3 ∈ allW := allW_in (tb_in 26 (by decide +kernel)) rfl
theorem kn_X1 : Cond.initialized RX1 ∈ allW := allW_in (tb_in 2 (by decide +kernel)) rfl
theorem mi_X1 : Cond.instanceMethod yX1_init ∈ allW ∧ Cond.code yX1_init cX1_init 1 none ∈ allW := ⟨allW_in (tb_in 28 (by decide +kernel)) rfl, allW_in (tb_in 29 (by decide +kernel)) rfl⟩
theorem ki_X2 : Cond.instantiable RX2 4 ∈ allW := allW_in (tb_in 131 (by decide +kernel)) rfl
theorem kn_X2 : Cond.initialized RX2 ∈ allW := allW_in (tb_in 6 (by decide +kernel)) rfl
theorem mi_X2 : Cond.instanceMethod yX2_init ∈ allW ∧ Cond.code yX2_init cX2_init 1 none ∈ allW := ⟨allW_in (tb_in 133 (by decide +kernel)) rfl, allW_in (tb_in 134 (by decide +kernel)) rfl⟩
theorem ki_X3 : Cond.instantiable RX3 5 ∈ allW := allW_in (tb_in 77 (by decide +kernel)) rfl
theorem kn_X3 : Cond.initialized RX3 ∈ allW := allW_in (tb_in 4 (by decide +kernel)) rfl
theorem mi_X3 : Cond.instanceMethod yX3_init ∈ allW ∧ Cond.code yX3_init cX3_init 1 none ∈ allW := ⟨allW_in (tb_in 79 (by decide +kernel)) rfl, allW_in (tb_in 80 (by decide +kernel)) rfl⟩
theorem ki_X4 : Cond.instantiable RX4 5 ∈ allW := allW_in (tb_in 53 (by decide +kernel)) rfl
theorem kn_X4 : Cond.initialized RX4 ∈ allW := allW_in (tb_in 3 (by decide +kernel)) rfl
theorem mi_X4 : Cond.instanceMethod yX4_init ∈ allW ∧ Cond.code yX4_init cX4_init 1 none ∈ allW := ⟨allW_in (tb_in 55 (by decide +kernel)) rfl, allW_in (tb_in 56 (by decide +kernel)) rfl⟩
theorem ki_X5 : Cond.instantiable RX5 10 ∈ allW := allW_in (tb_in 18 (by decide +kernel)) rfl
theorem kn_X5 : Cond.initialized RX5 ∈ allW := allW_in (tb_in 1 (by decide +kernel)) rfl
theorem mi_X5 : Cond.instanceMethod yX5_init ∈ allW ∧ Cond.code yX5_init cX5_init 2 none ∈ allW := ⟨allW_in (tb_in 20 (by decide +kernel)) rfl, allW_in (tb_in 21 (by decide +kernel)) rfl⟩
theorem mi_obj : Cond.instanceMethod objectInit ∈ allW ∧ Cond.code objectInit ⟨#[0xb1]⟩ 1 none ∈ allW := ⟨allW_in (tb_in 23 (by decide +kernel)) rfl, allW_in (tb_in 24 (by decide +kernel)) rfl⟩
theorem ka_int : Cond.arrayClass .int ∈ allW := allW_in (tb_in 47 (by decide +kernel)) rfl
theorem mw_min : Cond.static Lib.Math.min.name ∈ allW ∧ Cond.initialized "java/lang/Math" ∈ allW ∧ Cond.code Lib.Math.min.name Lib.Math.min.code 2 (some .int) ∈ allW := ⟨allW_in (tb_in 352 (by decide +kernel)) rfl, allW_in (tb_in 13 (by decide +kernel)) rfl, allW_in (tb_in 353 (by decide +kernel)) rfl⟩
theorem mw_copy : Cond.native arraycopyName ∈ allW ∧ Cond.static arraycopyName ∈ allW ∧ Cond.initialized "java/lang/System" ∈ allW := ⟨allW_in (tb_in 426 (by decide +kernel)) rfl, allW_in (tb_in 425 (by decide +kernel)) rfl, allW_in (tb_in 15 (by decide +kernel)) rfl⟩
end
section
/-! ===== more rows: longs, switches, Math, System.arraycopy ===== -/
section RW4
variable {p : Program} {l : Launch} {e : Env} {R : Room} {s : State} {m : MethodId} {args : Array Value} {below : List Frame} {meth : Method} {c : Code} {H : Heap} {locs : List Loc} {cells slots : Nat} {Q : State → Prop}
variable {cc : ByteArray} {pc n : Nat} {ls : Array Slot} {rest : List Value} {own : String} {G : dG} {ν : Mm} {H0 : Heap}
theorem tn_i2l {a : Nat} (X : dC p s m args c cc n own G) (hdg : decode cc pc = .ok (.i2l, 1)) (ha : a < 2 ^ 31) (k : W p l e R s m args below meth c H locs cells slots Q (F0 m (pc + 1) ls (.long (lN a) :: rest))) : W p l e R s m args below meth c H locs cells slots Q (F0 m pc ls (.int (nI a) :: rest)) :=
  lv_i2l X.1 X.2.1 hdg (nI_l ha) k
theorem tn_l2i {a : Nat} (X : dC p s m args c cc n own G) (hdg : decode cc pc = .ok (.l2i, 1)) (k : W p l e R s m args below meth c H locs cells slots Q (F0 m (pc + 1) ls (.int (nI a) :: rest))) : W p l e R s m args below meth c H locs cells slots Q (F0 m pc ls (.long (lN a) :: rest)) :=
  lv_l2i X.1 X.2.1 hdg (lN_i a) k
theorem tn_lmul {a b : Nat} (X : dC p s m args c cc n own G) (hdg : decode cc pc = .ok (.lmul, 1)) (k : W p l e R s m args below meth c H locs cells slots Q (F0 m (pc + 1) ls (.long (lN (a * b)) :: rest))) : W p l e R s m args below meth c H locs cells slots Q (F0 m pc ls (.long (lN b) :: .long (lN a) :: rest)) :=
  lv_lmul X.1 X.2.1 hdg (by rw [lN_mul]; exact k)
theorem tn_ldiv {a b : Nat} (X : dC p s m args c cc n own G) (hdg : decode cc pc = .ok (.ldiv, 1)) (ha : a < 2 ^ 63) (h0 : 0 < b) (hb : b < 2 ^ 63) (k : W p l e R s m args below meth c H locs cells slots Q (F0 m (pc + 1) ls (.long (lN (a / b)) :: rest))) : W p l e R s m args below meth c H locs cells slots Q (F0 m pc ls (.long (lN b) :: .long (lN a) :: rest)) :=
  lv_ldiv X.1 X.2.1 hdg (fun q => by have := (pk_lEQ (b := 0) hb (by omega)).mp (q.trans rfl); omega) (by rw [pk_lDiv ha h0 hb]; exact k)
theorem tn_min {a b index : Nat} (X : dC p s m args c cc n own G) (hl : ls.size = n) (hlink : Cond.methodLink own index Lib.Math.min.name ∈ allW) (hf : 1 ≤ R.frames) (hlo : (rest.map fun v => v.category).sum + 13 ≤ R.locals) (hc : cells ≤ R.cells) (hs : slots ≤ R.slots) (ha : a < 2 ^ 31) (hb : b < 2 ^ 31) (hdg : decode cc pc = .ok (.invokestatic index, 3))
    (k : W p l e R s m args below meth c H locs cells slots Q (F0 m (pc + 3) ls (.int (nI (min a b)) :: rest))) : W p l e R s m args below meth c H locs cells slots Q (F0 m pc ls (.int (nI b) :: .int (nI a) :: rest)) := by
  have hw := X.2.2.2.2.1
  refine va_mmin X.1 X.2.1 (by rw [hl]; exact X.2.2.1) X.2.2.2.1 (hw _ hlink) (hw _ mw_min.1) (hw _ mw_min.2.1) (hw _ mw_min.2.2) hf hlo hc hs hdg ?_
  have e : (if nI b < nI a then nI b else nI a) = nI (min a b) := by
    by_cases h : b < a
    · rw [if_pos (nI_lt h ha), Nat.min_eq_right (by omega)]
    · rw [if_neg (nI_nlt (by omega) hb), Nat.min_eq_left (by omega)]
  rw [e]
  exact k
theorem tn_max {a b index : Nat} (X : dC p s m args c cc n own G) (hl : ls.size = n) (hlink : Cond.methodLink own index Lib.Math.max.name ∈ allW) (hf : 1 ≤ R.frames) (hlo : (rest.map fun v => v.category).sum + 13 ≤ R.locals) (hc : cells ≤ R.cells) (hs : slots ≤ R.slots) (ha : a < 2 ^ 31) (hb : b < 2 ^ 31) (hst : Cond.static Lib.Math.max.name ∈ allW ∧ Cond.code Lib.Math.max.name Lib.Math.max.code 2 (some .int) ∈ allW) (hdg : decode cc pc = .ok (.invokestatic index, 3))
    (k : W p l e R s m args below meth c H locs cells slots Q (F0 m (pc + 3) ls (.int (nI (max a b)) :: rest))) : W p l e R s m args below meth c H locs cells slots Q (F0 m pc ls (.int (nI b) :: .int (nI a) :: rest)) := by
  have hw := X.2.2.2.2.1
  refine va_mmax X.1 X.2.1 (by rw [hl]; exact X.2.2.1) X.2.2.2.1 (hw _ hlink) (hw _ hst.1) (hw _ mw_min.2.1) (hw _ hst.2) hf hlo hc hs hdg ?_
  have e : (if nI a < nI b then nI b else nI a) = nI (max a b) := by
    by_cases h : a < b
    · rw [if_pos (nI_lt h hb), Nat.max_eq_right (by omega)]
    · rw [if_neg (nI_nlt (by omega) ha), Nat.max_eq_left (by omega)]
  rw [e]
  exact k
/-- System.arraycopy of the first k places -/
theorem tn_copy {index i j N k : Nat} (X : dC p s m args c cc n own G) (hM : dM G ν H) (hS : dS G H0 H locs) (hl : ls.size = n) (hlink : Cond.methodLink own index arraycopyName ∈ allW) (hi : i < 90) (hj : j < 90) (hE : dE G i (ν i) = aI G N (ν i)) (hE2 : ∀ r, dE G j r = aI G N r) (hk : k ≤ N) (hN : N < 2 ^ 31) (hlo : (rest.map fun v => v.category).sum ≤ 8) (hf : 1 ≤ R.frames) (hlo2 : 40 ≤ R.locals) (hdg : decode cc pc = .ok (.invokestatic index, 3))
    (kk : ∀ (H1 : Heap) (locs1 : List Loc), dM G (va_up ν j (fun a => if a < k then ν i a else ν j a)) H1 → dS G H0 H1 locs1 → W p l e R s m args below meth c H1 locs1 cells slots Q (F0 m (pc + 3) ls rest)) : W p l e R s m args below meth c H locs cells slots Q (F0 m pc ls (.int (nI k) :: .int (nI 0) :: .ref (ra G j) :: .int (nI 0) :: .ref (ra G i) :: rest)) := by
  have hw := X.2.2.2.2.1
  have hK := X.2.2.2.2.2
  have h0 : (nI 0).toNatClampNeg = 0 := rfl
  have h1 : (nI k).toNatClampNeg = k := nI_clamp (by omega)
  refine va_copyi (D := G.1) (c0 := G.2.1.1) (c1 := G.2.1.1) (n0 := N) (n1 := N) (f := fun a => nI (ν i a)) (g := fun a => nI (ν j a)) (ty := .int) X.1 X.2.1 (by rw [hl]; exact X.2.2.1) X.2.2.2.1 (hw _ hlink) (hw _ mw_copy.1) (hw _ mw_copy.2.1) (hw _ mw_copy.2.2) hK.1 hM.P wl_D hS i j 0 0 ((wl_get hi).trans (by rw [hE]; rfl)) ((wl_get hj).trans (by rw [hE2]; rfl)) rfl rfl rfl (nI_pos (by omega)) (nI_pos (by omega)) (nI_pos (by omega)) (by rw [h0, h1]; omega) (by rw [h0, h1]; omega) (fun _ _ => rfl) hf ?_ hdg (fun H1 locs1 hP _ hS1 => kk H1 locs1 (dM_set hj hP ?_ ?_) hS1)
  · have : nativeFrameWords "java/lang/System" "arraycopy" 5 + 11 ≤ 32 := by decide +kernel
    omega
  · rw [va_up_self, hE2, h0, h1]
    have e : (fun a => nI (if a < k then ν i a else ν j a)) = va_cpy (fun a => nI (ν i a)) (fun a => nI (ν j a)) 0 0 k := by
      funext a
      by_cases h : a < k
      · rw [pk_cpy_in (by omega) (by omega), if_pos h]; simp
      · rw [pk_cpy_out (by omega), if_neg h]
    unfold aI
    rw [e]
  · intro a ha; exact va_up_ne _ _ ha
theorem tn_swI {a len tgt : Nat} {dflt lo hi off : Int} {offs : Array Int} (X : dC p s m args c cc n own G) (hdg : decode cc pc = .ok (.tableswitch dflt lo hi offs, len)) (ha : a < 2 ^ 31) (h1 : lo ≤ (a : Int)) (h2 : (a : Int) ≤ hi) (ho : offs[((a : Int) - lo).toNat]? = some off) (ht : (pc : Int) + off = (tgt : Int)) (k : W p l e R s m args below meth c H locs cells slots Q (F0 m tgt ls rest)) : W p l e R s m args below meth c H locs cells slots Q (F0 m pc ls (.int (nI a) :: rest)) :=
  lv_tableIn X.1 X.2.1 hdg (by rw [nI_toInt ha]; omega) (by rw [nI_toInt ha]; omega) (by rw [nI_toInt ha]; exact ho) ht k
theorem tn_swO {a len tgt : Nat} {dflt lo hi : Int} {offs : Array Int} (X : dC p s m args c cc n own G) (hdg : decode cc pc = .ok (.tableswitch dflt lo hi offs, len)) (ha : a < 2 ^ 31) (h : (a : Int) < lo ∨ hi < (a : Int)) (ht : (pc : Int) + dflt = (tgt : Int)) (k : W p l e R s m args below meth c H locs cells slots Q (F0 m tgt ls rest)) : W p l e R s m args below meth c H locs cells slots Q (F0 m pc ls (.int (nI a) :: rest)) :=
  lv_tableOut X.1 X.2.1 hdg (by rw [nI_toInt ha]; exact h) ht k
theorem tn_subZ {a b : Nat} (X : dC p s m args c cc n own G) (hdg : decode cc pc = .ok (.isub, 1)) (k : W p l e R s m args below meth c H locs cells slots Q (F0 m (pc + 1) ls (.int (nI a - nI b) :: rest))) : W p l e R s m args below meth c H locs cells slots Q (F0 m pc ls (.int (nI b) :: .int (nI a) :: rest)) :=
  lv_isub X.1 X.2.1 hdg k
theorem tn_ltZ {a b tgt : Nat} {off : Int} (X : dC p s m args c cc n own G) (hdg : decode cc pc = .ok (.ifCond .lt off, 3)) (ht : (pc : Int) + off = (tgt : Int)) (ha : a < 2 ^ 30) (hb : b < 2 ^ 30) (kt : a < b → W p l e R s m args below meth c H locs cells slots Q (F0 m tgt ls rest)) (kf : b ≤ a → W p l e R s m args below meth c H locs cells slots Q (F0 m (pc + 3) ls rest)) : W p l e R s m args below meth c H locs cells slots Q (F0 m pc ls (.int (nI a - nI b) :: rest)) :=
  lv_if_lt X.1 X.2.1 hdg ht (fun h => kt (Nat.lt_of_not_le fun q => by rw [pk_sub q] at h; exact nI_pos (by omega) h)) (fun h => kf (Nat.le_of_not_lt fun q => h (pk_sneg hb q)))
theorem tn_neZ {a b tgt : Nat} {off : Int} (X : dC p s m args c cc n own G) (hdg : decode cc pc = .ok (.ifCond .ne off, 3)) (ht : (pc : Int) + off = (tgt : Int)) (ha : a < 2 ^ 30) (hb : b < 2 ^ 30) (kt : a ≠ b → W p l e R s m args below meth c H locs cells slots Q (F0 m tgt ls rest)) (kf : a = b → W p l e R s m args below meth c H locs cells slots Q (F0 m (pc + 3) ls rest)) : W p l e R s m args below meth c H locs cells slots Q (F0 m pc ls (.int (nI a - nI b) :: rest)) :=
  lv_if_ne X.1 X.2.1 hdg ht (fun h => kt (fun q => h (by rw [q, pk_sub (Nat.le_refl _), Nat.sub_self]; rfl))) (fun h => kf (by
    rcases Nat.lt_trichotomy a b with q | q | q
    · have := pk_sneg hb q
      rw [h] at this
      exact absurd this (by decide)
    · exact q
    · rw [pk_sub (Nat.le_of_lt q)] at h
      have := (nI_eq (by omega) (by omega)).mp (h.trans nI_0.symm)
      omega))
theorem tn_ushr {a k0 : Nat} (X : dC p s m args c cc n own G) (hdg : decode cc pc = .ok (.iushr, 1)) (ha : a < 2 ^ 32) (hk : k0 < 32) (k : W p l e R s m args below meth c H locs cells slots Q (F0 m (pc + 1) ls (.int (nI (a / 2 ^ k0)) :: rest))) : W p l e R s m args below meth c H locs cells slots Q (F0 m pc ls (.int (nI k0) :: .int (nI a) :: rest)) :=
  lv_iushr X.1 X.2.1 hdg (pk_ushrN ha _ k0 (by
    have : ∀ k : Fin 32, (((nI k.val).toUInt32 &&& Int32.toUInt32 31).toBitVec % 32).toNat = k.val := by decide +kernel
    exact this ⟨k0, hk⟩)) k
theorem tn_ldcw {v : Int32} {w index : Nat} (X : dC p s m args c cc n own G) (hw : Cond.constant own index v ∈ allW) (hv : v = nI w) (hdg : decode cc pc = .ok (.ldc_w index, 3)) (k : W p l e R s m args below meth c H locs cells slots Q (F0 m (pc + 3) ls (.int (nI w) :: rest))) : W p l e R s m args below meth c H locs cells slots Q (F0 m pc ls rest) := by
  subst hv
  exact lv_ldcw X.1 X.2.1 X.2.2.2.1 (X.2.2.2.2.1 _ hw) hdg k
end RW4
end
section
/-! ===== what the methods compute, in numbers ===== -/
/-- bit k of n -/
def bt (n k : Nat) : Nat := n / 2 ^ k % 2
/-- the prices of the first a articles of the lot L whose category is in cs -/
def pin (ν : Mm) (L cs : Nat) : Nat → Nat
  | 0 => 0
  | a + 1 => if bt cs (ν (L + 2) a) = 1 then pin ν L cs a + ν (L + 1) a * ν (L + 3) a else pin ν L cs a
/-- the pieces of the first a articles -/
def cnt (ν : Mm) (L : Nat) : Nat → Nat
  | 0 => 0
  | a + 1 => cnt ν L a + ν (L + 3) a
/-- how many of the lowest eight bits are set -/
def bc (a : Nat) : Nat := bt a 0 + bt a 1 + bt a 2 + bt a 3 + bt a 4 + bt a 5 + bt a 6 + bt a 7
theorem bt_le (n k : Nat) : bt n k ≤ 1 := by unfold bt; omega
theorem bc_le (a : Nat) : bc a ≤ 8 := by
  have h0 := bt_le a 0
  have h1 := bt_le a 1
  have h2 := bt_le a 2
  have h3 := bt_le a 3
  have h4 := bt_le a 4
  have h5 := bt_le a 5
  have h6 := bt_le a 6
  have h7 := bt_le a 7
  unfold bc; omega
/-- the steps of Integer.bitCount -/
def bc1 (a : Nat) : Nat := a - (a / 2 ^ 1 &&& 1431655765)
def bc2 (a : Nat) : Nat := (bc1 a &&& 858993459) + (bc1 a / 2 ^ 2 &&& 858993459)
def bc3 (a : Nat) : Nat := bc2 a + bc2 a / 2 ^ 4 &&& 252645135
def bc4 (a : Nat) : Nat := bc3 a + bc3 a / 2 ^ 8
def bc5 (a : Nat) : Nat := bc4 a + bc4 a / 2 ^ 16
theorem bc_all : ∀ a : Fin 256, bc5 a.val &&& 63 = bc a.val ∧ bc1 a.val < 2 ^ 32 ∧ bc2 a.val < 2 ^ 32 ∧ bc3 a.val < 2 ^ 32 ∧ bc4 a.val < 2 ^ 32 := by decide +kernel
theorem bc_run (a : Nat) (h : a < 256) : bc5 a &&& 63 = bc a := (bc_all ⟨a, h⟩).1
theorem bc_b17 (a : Nat) (h : a < 256) : bc1 a < 2 ^ 32 := (bc_all ⟨a, h⟩).2.1
theorem bc_b27 (a : Nat) (h : a < 256) : bc2 a < 2 ^ 32 := (bc_all ⟨a, h⟩).2.2.1
theorem bc_b38 (a : Nat) (h : a < 256) : bc3 a < 2 ^ 32 := (bc_all ⟨a, h⟩).2.2.2.1
theorem bc_b45 (a : Nat) (h : a < 256) : bc4 a < 2 ^ 32 := (bc_all ⟨a, h⟩).2.2.2.2
theorem ite1 {P : Prop} {h : Decidable P} (e : (if P then 1 else 0) ≠ 0) : P := by
  by_cases q : P
  · exact q
  · rw [if_neg q] at e; exact absurd rfl e
theorem ite0 {P : Prop} {h : Decidable P} (e : (if P then 1 else 0) = 0) : ¬ P := by
  intro q
  rw [if_pos q] at e; exact absurd e (by decide)
/-- is the set st with the price p better than the set bs with the price lt -/
abbrev better (p st lt bs : Nat) : Prop := p < lt ∨ (p = lt ∧ (bc st < bc bs ∨ (bc st = bc bs ∧ st < bs)))
/-- the memory behind an offer -/
def offerM (ν : Mm) (st pr : Nat) : Mm :=
  let ν1 := if st &&& ν 21 0 = 0 then up2 ν 21 4 (min (ν 21 4) pr) else ν
  if better pr st (ν 21 3) (ν 21 2) then up2 (up2 ν1 21 2 st) 21 3 pr else ν1
theorem offer_pp {ν : Mm} {st pr : Nat} (h : st &&& ν 21 0 = 0) (h2 : better pr st (up2 ν 21 4 (min (ν 21 4) pr) 21 3) (up2 ν 21 4 (min (ν 21 4) pr) 21 2)) : up2 (up2 (up2 ν 21 4 (min (ν 21 4) pr)) 21 2 st) 21 3 pr = offerM ν st pr := by
  rw [up2_ne2 (by decide), up2_ne2 (by decide)] at h2
  simp only [offerM, if_pos h, if_pos h2]
theorem offer_pn {ν : Mm} {st pr : Nat} (h : st &&& ν 21 0 = 0) (h2 : ¬ better pr st (up2 ν 21 4 (min (ν 21 4) pr) 21 3) (up2 ν 21 4 (min (ν 21 4) pr) 21 2)) : up2 ν 21 4 (min (ν 21 4) pr) = offerM ν st pr := by
  rw [up2_ne2 (by decide), up2_ne2 (by decide)] at h2
  simp only [offerM, if_pos h, if_neg h2]
theorem offer_np {ν : Mm} {st pr : Nat} (h : ¬ st &&& ν 21 0 = 0) (h2 : better pr st (ν 21 3) (ν 21 2)) : up2 (up2 ν 21 2 st) 21 3 pr = offerM ν st pr := by
  simp only [offerM, if_neg h, if_pos h2]
theorem offer_nn {ν : Mm} {st pr : Nat} (h : ¬ st &&& ν 21 0 = 0) (h2 : ¬ better pr st (ν 21 3) (ν 21 2)) : ν = offerM ν st pr := by
  simp only [offerM, if_neg h, if_neg h2]
theorem fill_zero (ν : Mm) (i x : Nat) : va_up ν i (fun b => if b < 0 then x else ν i b) = ν := by
  funext a b
  by_cases h : a = i
  · subst h; simp [va_up]
  · simp [va_up, h]
theorem fill_step (ν : Mm) (i x a : Nat) : up2 (va_up ν i (fun b => if b < a then x else ν i b)) i a x = va_up ν i (fun b => if b < a + 1 then x else ν i b) := by
  funext u v
  rw [up2_if]
  by_cases h : u = i
  · subst h
    by_cases g : v = a
    · subst g; simp [va_up]
    · simp only [va_up, g, and_false, if_false, if_true]
      by_cases k : v < a
      · simp [k, show v < a + 1 by omega]
      · simp [k, show ¬ v < a + 1 by omega]
  · simp [va_up, h]
/-- one row over another, ten places -/
def cp10 (ν : Mm) (i j : Nat) : Mm := va_up ν j (fun a => if a < 10 then ν i a else ν j a)
/-- the lot K over the lot L -/
def cpLot (ν : Mm) (K L : Nat) : Mm := cp10 (cp10 (cp10 ν (K + 1) (L + 1)) (K + 2) (L + 2)) (K + 3) (L + 3)
/-- what an order tells -/
def tellF (ν : Mm) (q x : Nat) : Nat := match x with
  | 0 => ν (30 + 5 * q) 3
  | 1 => ν (30 + 5 * q) 2
  | 2 => ν (30 + 5 * q) 1
  | 3 => cnt ν (31 + 5 * q) 10
  | _ => pin ν (31 + 5 * q) 255 10
theorem tellF_4 {ν : Mm} {q x : Nat} (h : 3 < x) : tellF ν q x = pin ν (31 + 5 * q) 255 10 := by
  match x, h with
  | k + 4, _ => rfl
end
section
/-! ===== Lot, Coupon ===== -/
set_option maxHeartbeats 4000000 in
set_option maxRecDepth 100000 in
theorem c_X1_pricesIn {l : Launch} {G : dG} {ν : Mm} {L cs : Nat} (hL : lotB L) (hcs : cs < 2 ^ 31) (hC : ∀ a, a < 10 → ν (L + 2) a < 32) : cI l yX1_pricesIn cX1_pricesIn 4 (some .int) 0 G [.ref (ra G L), .int (nI cs)] ν (fun r ν' => r = pin ν L cs 10 ∧ ν' = ν) := by
  refine cI_of (by decide +kernel) (Nat.le_of_ble_eq_true rfl) ?_
  intro p e s m args below meth c ls X hM hret hlk hl
  have hS : dS G s.heap s.heap [] := va_S.rf
  refine tn_ic (v := 0) X dX1_pricesIn_0 (by decide) ?_
  refine lv_istore_n X.1 X.2.1 dX1_pricesIn_1 rfl hl (by decide) rfl (fun ls hl => ?_)
  replace hl : lv_has ls 4 [(2, _), (0, _), (1, _)] := hl
  refine tn_ic (v := 0) X dX1_pricesIn_2 (by decide) ?_
  refine lv_istore_n X.1 X.2.1 dX1_pricesIn_3 rfl hl (by decide) rfl (fun ls hl => ?_)
  replace hl : lv_has ls 4 [(3, _), (2, _), (0, _), (1, _)] := hl
  have Lp : ∀ (k : Nat) (a : Nat), a + k = 10 → ∀ (ls : Array Slot) (H : Heap) (locs : List Loc), dM G ν H → dS G s.heap H locs → lv_has ls 4 [(0, .ref (ra G L)), (1, .int (nI cs)), (2, .int (nI (pin ν L cs a))), (3, .int (nI a))] → W p l e (rmD 0) s m args below meth c H locs 0 0 (MQ below (dQi G s.heap.size (fun r ν' => r = pin ν L cs 10 ∧ ν' = ν)) args s 0 0 (dA G s.heap.size)) (F0 m 4 ls []) := by
    intro k
    induction k with
    | zero =>
      intro a ha ls H locs hM hS hl
      refine lv_iload_n X.1 X.2.1 dX1_pricesIn_4 rfl (lv_at hl 3 rfl) ?_
      refine tn_bi (v := 10) X dX1_pricesIn_5 (by decide) ?_
      refine tn_ge (tgt := 45) X dX1_pricesIn_7 (by decide) (by omega) (by omega) (fun h7 => ?_) (fun h7 => ?_)
      · refine lv_iload_n X.1 X.2.1 dX1_pricesIn_45 rfl (lv_at hl 2 rfl) ?_
        exact rI ⟨by rw [show a = 10 by omega], rfl⟩ X hM hS hret hlk dX1_pricesIn_46
      · exfalso; omega
    | succ k ih =>
      intro a ha ls H locs hM hS hl
      have hc := hC a (by omega)
      refine lv_iload_n X.1 X.2.1 dX1_pricesIn_4 rfl (lv_at hl 3 rfl) ?_
      refine tn_bi (v := 10) X dX1_pricesIn_5 (by decide) ?_
      refine tn_ge (tgt := 45) X dX1_pricesIn_7 (by decide) (by omega) (by omega) (fun h7 => ?_) (fun h7 => ?_)
      · exfalso; omega
      · refine lv_iload_n X.1 X.2.1 dX1_pricesIn_10 rfl (lv_at hl 1 rfl) ?_
        refine lv_aload_n X.1 X.2.1 dX1_pricesIn_11 rfl (lv_at hl 0 rfl) ?_
        refine m_get (ci := 1) (C := RX1) (T := TX1) (N := 3) X hM inA1 (by have := lotB.lt hL; omega) (dE_lot hL G _) rfl 1 (by decide) kl_X1_15 rfl rfl dX1_pricesIn_12 ?_
        refine lv_iload_n X.1 X.2.1 dX1_pricesIn_15 rfl (lv_at hl 3 rfl) ?_
        refine m_iald X hM (by have := lotB.lt hL; omega) (dE_lotA hL (by decide) (by decide) G _) (by omega) (by decide) dX1_pricesIn_16 ?_
        refine tn_shr X dX1_pricesIn_17 (by omega) (by omega) ?_
        refine tn_ic (v := 1) X dX1_pricesIn_18 (by decide) ?_
        refine tn_and1 X dX1_pricesIn_19 ?_
        refine tn_eq0 (tgt := 39) X dX1_pricesIn_20 (by decide) (by omega) (fun h20 => ?_) (fun h20 => ?_)
        · refine tn_inc (k := 3) (w := 1) X dX1_pricesIn_39 hl rfl (by decide) (by decide) rfl (fun ls hl => ?_)
          replace hl : lv_has ls 4 [(3, _), (0, _), (1, _), (2, _)] := hl
          refine lv_goto (tgt := 4) X.1 X.2.1 dX1_pricesIn_42 (by decide) ?_
          have e : pin ν L cs (a + 1) = _ := if_neg (by unfold bt; omega)
          exact ih (a + 1) (by omega) ls H locs hM hS (by rw [e]; exact (lv_sub hl [1, 2, 3, 0] rfl))
        · refine lv_iload_n X.1 X.2.1 dX1_pricesIn_23 rfl (lv_at hl 2 rfl) ?_
          refine lv_aload_n X.1 X.2.1 dX1_pricesIn_24 rfl (lv_at hl 0 rfl) ?_
          refine m_get (ci := 1) (C := RX1) (T := TX1) (N := 3) X hM inA1 (by have := lotB.lt hL; omega) (dE_lot hL G _) rfl 0 (by decide) kl_X1_9 rfl rfl dX1_pricesIn_25 ?_
          refine lv_iload_n X.1 X.2.1 dX1_pricesIn_28 rfl (lv_at hl 3 rfl) ?_
          refine m_iald X hM (by have := lotB.lt hL; omega) (dE_lotA hL (by decide) (by decide) G _) (by omega) (by decide) dX1_pricesIn_29 ?_
          refine lv_aload_n X.1 X.2.1 dX1_pricesIn_30 rfl (lv_at hl 0 rfl) ?_
          refine m_get (ci := 1) (C := RX1) (T := TX1) (N := 3) X hM inA1 (by have := lotB.lt hL; omega) (dE_lot hL G _) rfl 2 (by decide) kl_X1_18 rfl rfl dX1_pricesIn_31 ?_
          refine lv_iload_n X.1 X.2.1 dX1_pricesIn_34 rfl (lv_at hl 3 rfl) ?_
          refine m_iald X hM (by have := lotB.lt hL; omega) (dE_lotA hL (by decide) (by decide) G _) (by omega) (by decide) dX1_pricesIn_35 ?_
          refine tn_mul X dX1_pricesIn_36 ?_
          refine tn_add X dX1_pricesIn_37 ?_
          refine lv_istore_n X.1 X.2.1 dX1_pricesIn_38 rfl hl (by decide) rfl (fun ls hl => ?_)
          replace hl : lv_has ls 4 [(2, _), (0, _), (1, _), (3, _)] := hl
          refine tn_inc (k := 3) (w := 1) X dX1_pricesIn_39 hl rfl (by decide) (by decide) rfl (fun ls hl => ?_)
          replace hl : lv_has ls 4 [(3, _), (2, _), (0, _), (1, _)] := hl
          refine lv_goto (tgt := 4) X.1 X.2.1 dX1_pricesIn_42 (by decide) ?_
          have e : pin ν L cs (a + 1) = _ := if_pos (by unfold bt; omega)
          exact ih (a + 1) (by omega) ls H locs hM hS (by rw [e]; exact (lv_sub hl [2, 3, 1, 0] rfl))
  exact Lp 10 0 (by omega) ls _ _ hM hS (lv_sub hl [2, 3, 1, 0] rfl)

set_option maxHeartbeats 4000000 in
set_option maxRecDepth 100000 in
theorem c_X1_countOfPieces {l : Launch} {G : dG} {ν : Mm} {L : Nat} (hL : lotB L) : cI l yX1_countOfPieces cX1_countOfPieces 3 (some .int) 0 G [.ref (ra G L)] ν (fun r ν' => r = cnt ν L 10 ∧ ν' = ν) := by
  refine cI_of (by decide +kernel) (Nat.le_of_ble_eq_true rfl) ?_
  intro p e s m args below meth c ls X hM hret hlk hl
  have hS : dS G s.heap s.heap [] := va_S.rf
  refine tn_ic (v := 0) X dX1_countOfPieces_0 (by decide) ?_
  refine lv_istore_n X.1 X.2.1 dX1_countOfPieces_1 rfl hl (by decide) rfl (fun ls hl => ?_)
  replace hl : lv_has ls 3 [(1, _), (0, _)] := hl
  refine tn_ic (v := 0) X dX1_countOfPieces_2 (by decide) ?_
  refine lv_istore_n X.1 X.2.1 dX1_countOfPieces_3 rfl hl (by decide) rfl (fun ls hl => ?_)
  replace hl : lv_has ls 3 [(2, _), (1, _), (0, _)] := hl
  have Lp : ∀ (k : Nat) (a : Nat), a + k = 10 → ∀ (ls : Array Slot) (H : Heap) (locs : List Loc), dM G ν H → dS G s.heap H locs → lv_has ls 3 [(0, .ref (ra G L)), (1, .int (nI (cnt ν L a))), (2, .int (nI a))] → W p l e (rmD 0) s m args below meth c H locs 0 0 (MQ below (dQi G s.heap.size (fun r ν' => r = cnt ν L 10 ∧ ν' = ν)) args s 0 0 (dA G s.heap.size)) (F0 m 4 ls []) := by
    intro k
    induction k with
    | zero =>
      intro a ha ls H locs hM hS hl
      refine lv_iload_n X.1 X.2.1 dX1_countOfPieces_4 rfl (lv_at hl 2 rfl) ?_
      refine tn_bi (v := 10) X dX1_countOfPieces_5 (by decide) ?_
      refine tn_ge (tgt := 25) X dX1_countOfPieces_7 (by decide) (by omega) (by omega) (fun h7 => ?_) (fun h7 => ?_)
      · refine lv_iload_n X.1 X.2.1 dX1_countOfPieces_25 rfl (lv_at hl 1 rfl) ?_
        exact rI ⟨by rw [show a = 10 by omega], rfl⟩ X hM hS hret hlk dX1_countOfPieces_26
      · exfalso; omega
    | succ k ih =>
      intro a ha ls H locs hM hS hl
      refine lv_iload_n X.1 X.2.1 dX1_countOfPieces_4 rfl (lv_at hl 2 rfl) ?_
      refine tn_bi (v := 10) X dX1_countOfPieces_5 (by decide) ?_
      refine tn_ge (tgt := 25) X dX1_countOfPieces_7 (by decide) (by omega) (by omega) (fun h7 => ?_) (fun h7 => ?_)
      · exfalso; omega
      · refine lv_iload_n X.1 X.2.1 dX1_countOfPieces_10 rfl (lv_at hl 1 rfl) ?_
        refine lv_aload_n X.1 X.2.1 dX1_countOfPieces_11 rfl (lv_at hl 0 rfl) ?_
        refine m_get (ci := 1) (C := RX1) (T := TX1) (N := 3) X hM inA1 (by have := lotB.lt hL; omega) (dE_lot hL G _) rfl 2 (by decide) kl_X1_18 rfl rfl dX1_countOfPieces_12 ?_
        refine lv_iload_n X.1 X.2.1 dX1_countOfPieces_15 rfl (lv_at hl 2 rfl) ?_
        refine m_iald X hM (by have := lotB.lt hL; omega) (dE_lotA hL (by decide) (by decide) G _) (by omega) (by decide) dX1_countOfPieces_16 ?_
        refine tn_add X dX1_countOfPieces_17 ?_
        refine lv_istore_n X.1 X.2.1 dX1_countOfPieces_18 rfl hl (by decide) rfl (fun ls hl => ?_)
        replace hl : lv_has ls 3 [(1, _), (0, _), (2, _)] := hl
        refine tn_inc (k := 2) (w := 1) X dX1_countOfPieces_19 hl rfl (by decide) (by decide) rfl (fun ls hl => ?_)
        replace hl : lv_has ls 3 [(2, _), (1, _), (0, _)] := hl
        refine lv_goto (tgt := 4) X.1 X.2.1 dX1_countOfPieces_22 (by decide) ?_
        exact ih (a + 1) (by omega) ls H locs hM hS (lv_sub hl [2, 1, 0] rfl)
  exact Lp 10 0 (by omega) ls _ _ hM hS (lv_sub hl [2, 1, 0] rfl)

set_option maxHeartbeats 4000000 in
set_option maxRecDepth 100000 in
theorem c_X0_isMatchedBy {l : Launch} {G : dG} {ν : Mm} {q cat : Nat} (hq : q < 8) (hcs : ν (22 + q) 2 < 2 ^ 31) (hcat : cat < 32) : cI l yX0_isMatchedBy cX0_isMatchedBy 2 (some .boolean) 0 G [.ref (ra G (22 + q)), .int (nI cat)] ν (fun r ν' => r = bt (ν (22 + q) 2) cat ∧ ν' = ν) := by
  refine cI_of (by decide +kernel) (Nat.le_of_ble_eq_true rfl) ?_
  intro p e s m args below meth c ls X hM hret hlk hl
  have hS : dS G s.heap s.heap [] := va_S.rf
  refine lv_aload_n X.1 X.2.1 dX0_isMatchedBy_0 rfl (lv_at hl 0 rfl) ?_
  refine m_get (ci := 0) (C := RX0) (T := TX0) (N := 6) X hM inA0 (by omega) (dE_cou hq G _) rfl 2 (by decide) kl_X0_18 rfl rfl dX0_isMatchedBy_1 ?_
  refine lv_iload_n X.1 X.2.1 dX0_isMatchedBy_4 rfl (lv_at hl 1 rfl) ?_
  refine tn_shr X dX0_isMatchedBy_5 (by omega) (by omega) ?_
  refine tn_ic (v := 1) X dX0_isMatchedBy_6 (by decide) ?_
  refine tn_and1 X dX0_isMatchedBy_7 ?_
  refine tn_eq0 (tgt := 15) X dX0_isMatchedBy_8 (by decide) (by omega) (fun h8 => ?_) (fun h8 => ?_)
  · refine tn_ic (v := 0) X dX0_isMatchedBy_15 (by decide) ?_
    exact rZ ⟨by unfold bt; omega, rfl⟩ X hM hS hret hlk (by omega) dX0_isMatchedBy_16
  · refine tn_ic (v := 1) X dX0_isMatchedBy_11 (by decide) ?_
    refine lv_goto (tgt := 16) X.1 X.2.1 dX0_isMatchedBy_12 (by decide) ?_
    exact rZ ⟨by unfold bt; omega, rfl⟩ X hM hS hret hlk (by omega) dX0_isMatchedBy_16

set_option maxHeartbeats 4000000 in
set_option maxRecDepth 100000 in
theorem c_X0_isReachedBy {l : Launch} {G : dG} {ν : Mm} {q L : Nat} (hq : q < 8) (hL : lotB L) (hcs : ν (22 + q) 2 < 2 ^ 31) (hC : ∀ a, a < 10 → ν (L + 2) a < 32) (hb : pin ν L (ν (22 + q) 2) 10 < 2 ^ 31) (hm : ν (22 + q) 3 < 2 ^ 31) : cI l yX0_isReachedBy cX0_isReachedBy 3 (some .boolean) 1 G [.ref (ra G (22 + q)), .ref (ra G L)] ν (fun r ν' => r = (if 0 < pin ν L (ν (22 + q) 2) 10 ∧ ν (22 + q) 3 ≤ pin ν L (ν (22 + q) 2) 10 then 1 else 0) ∧ ν' = ν) := by
  refine cI_of (by decide +kernel) (Nat.le_of_ble_eq_true rfl) ?_
  intro p e s m args below meth c ls X hM hret hlk hl
  have hS : dS G s.heap s.heap [] := va_S.rf
  refine lv_aload_n X.1 X.2.1 dX0_isReachedBy_0 rfl (lv_at hl 1 rfl) ?_
  refine lv_aload_n X.1 X.2.1 dX0_isReachedBy_1 rfl (lv_at hl 0 rfl) ?_
  refine m_get (ci := 0) (C := RX0) (T := TX0) (N := 6) X hM inA0 (by omega) (dE_cou hq G _) rfl 2 (by decide) kl_X0_18 rfl rfl dX0_isReachedBy_2 ?_
  refine kNI (As := [_]) X hM hS hl.1 (c_X1_pricesIn hL hcs hC) (by have := lotB.lt hL; omega) (dE_lot hL G _) rfl rfl kl_X0_30 mf_X1_pricesIn ⟨Nat.le_of_ble_eq_true rfl, Nat.le_of_ble_eq_true rfl⟩ ⟨Nat.zero_le _, Nat.zero_le _⟩ rfl (Nat.le_of_ble_eq_true rfl) dX0_isReachedBy_5 (fun r5 ν5 H locs hp5 hM hS => ?_)
  obtain ⟨rfl, e5⟩ := hp5
  replace e5 := e5.symm
  subst e5
  refine lv_istore_n X.1 X.2.1 dX0_isReachedBy_8 rfl hl (by decide) rfl (fun ls hl => ?_)
  replace hl : lv_has ls 3 [(2, _), (0, _), (1, _)] := hl
  refine lv_iload_n X.1 X.2.1 dX0_isReachedBy_9 rfl (lv_at hl 0 rfl) ?_
  refine tn_le0 (tgt := 25) X dX0_isReachedBy_10 (by decide) (by omega) (fun h10 => ?_) (fun h10 => ?_)
  · refine tn_ic (v := 0) X dX0_isReachedBy_25 (by decide) ?_
    exact rZ ⟨(if_neg (by omega)).symm, rfl⟩ X hM hS hret hlk (by omega) dX0_isReachedBy_26
  · refine lv_iload_n X.1 X.2.1 dX0_isReachedBy_13 rfl (lv_at hl 0 rfl) ?_
    refine lv_aload_n X.1 X.2.1 dX0_isReachedBy_14 rfl (lv_at hl 1 rfl) ?_
    refine m_get (ci := 0) (C := RX0) (T := TX0) (N := 6) X hM inA0 (by omega) (dE_cou hq G _) rfl 3 (by decide) kl_X0_21 rfl rfl dX0_isReachedBy_15 ?_
    refine tn_lt (tgt := 25) X dX0_isReachedBy_18 (by decide) (by omega) (by omega) (fun h18 => ?_) (fun h18 => ?_)
    · refine tn_ic (v := 0) X dX0_isReachedBy_25 (by decide) ?_
      exact rZ ⟨(if_neg (by omega)).symm, rfl⟩ X hM hS hret hlk (by omega) dX0_isReachedBy_26
    · refine tn_ic (v := 1) X dX0_isReachedBy_21 (by decide) ?_
      refine lv_goto (tgt := 26) X.1 X.2.1 dX0_isReachedBy_22 (by decide) ?_
      exact rZ ⟨(if_pos (by omega)).symm, rfl⟩ X hM hS hret hlk (by omega) dX0_isReachedBy_26

set_option maxHeartbeats 4000000 in
set_option maxRecDepth 100000 in
theorem c_X0_isUsableFor {l : Launch} {G : dG} {ν : Mm} {q L : Nat} (hq : q < 8) (hL : lotB L) (hcs : ν (22 + q) 2 < 2 ^ 31) (hC : ∀ a, a < 10 → ν (L + 2) a < 32) (hb : pin ν L (ν (22 + q) 2) 10 < 2 ^ 31) (hm : ν (22 + q) 3 < 2 ^ 31) (hu : ν (22 + q) 5 < 2 ^ 31) : cI l yX0_isUsableFor cX0_isUsableFor 2 (some .boolean) 2 G [.ref (ra G (22 + q)), .ref (ra G L)] ν (fun r ν' => r = (if 0 < ν (22 + q) 5 ∧ 0 < pin ν L (ν (22 + q) 2) 10 ∧ ν (22 + q) 3 ≤ pin ν L (ν (22 + q) 2) 10 then 1 else 0) ∧ ν' = ν) := by
  refine cI_of (by decide +kernel) (Nat.le_of_ble_eq_true rfl) ?_
  intro p e s m args below meth c ls X hM hret hlk hl
  have hS : dS G s.heap s.heap [] := va_S.rf
  refine lv_aload_n X.1 X.2.1 dX0_isUsableFor_0 rfl (lv_at hl 0 rfl) ?_
  refine m_get (ci := 0) (C := RX0) (T := TX0) (N := 6) X hM inA0 (by omega) (dE_cou hq G _) rfl 5 (by decide) kl_X0_27 rfl rfl dX0_isUsableFor_1 ?_
  refine tn_le0 (tgt := 19) X dX0_isUsableFor_4 (by decide) (by omega) (fun h4 => ?_) (fun h4 => ?_)
  · refine tn_ic (v := 0) X dX0_isUsableFor_19 (by decide) ?_
    exact rZ ⟨by split at * <;> first | rfl | (exfalso; omega) | simp_all, rfl⟩ X hM hS hret hlk (by omega) dX0_isUsableFor_20
  · refine lv_aload_n X.1 X.2.1 dX0_isUsableFor_7 rfl (lv_at hl 0 rfl) ?_
    refine lv_aload_n X.1 X.2.1 dX0_isUsableFor_8 rfl (lv_at hl 1 rfl) ?_
    refine kVI (As := [_]) X hM hS hl.1 (c_X0_isReachedBy hq hL hcs hC hb hm) (by omega) (dE_cou hq G _) rfl rfl kl_X0_36 mf_X0_isReachedBy ⟨Nat.le_of_ble_eq_true rfl, Nat.le_of_ble_eq_true rfl⟩ ⟨Nat.zero_le _, Nat.zero_le _⟩ rfl (Nat.le_of_ble_eq_true rfl) dX0_isUsableFor_9 (fun r9 ν9 H locs hp9 hM hS => ?_)
    obtain ⟨rfl, e9⟩ := hp9
    replace e9 := e9.symm
    subst e9
    refine tn_eq0 (tgt := 19) X dX0_isUsableFor_12 (by decide) (by split <;> omega) (fun h12 => ?_) (fun h12 => ?_)
    · refine tn_ic (v := 0) X dX0_isUsableFor_19 (by decide) ?_
      exact rZ ⟨by split at * <;> first | rfl | (exfalso; omega) | simp_all, rfl⟩ X hM hS hret hlk (by omega) dX0_isUsableFor_20
    · refine tn_ic (v := 1) X dX0_isUsableFor_15 (by decide) ?_
      refine lv_goto (tgt := 20) X.1 X.2.1 dX0_isUsableFor_16 (by decide) ?_
      exact rZ ⟨by split at * <;> first | rfl | (exfalso; omega) | simp_all, rfl⟩ X hM hS hret hlk (by omega) dX0_isUsableFor_20
end
section
/-! ===== Search, Order, the rest of Lot and Coupon ===== -/
set_option maxHeartbeats 4000000 in
set_option maxRecDepth 100000 in
theorem c_J6_bitCount_0f7a4 {l : Launch} {G : dG} {ν : Mm} {a : Nat} (ha : a < 256) : cI l yJ6_bitCount_0f7a4 cJ6_bitCount_0f7a4 1 (some .int) 0 G [.int (nI a)] ν (fun r ν' => r = bc a ∧ ν' = ν) := by
  refine cI_of (by decide +kernel) (Nat.le_of_ble_eq_true rfl) ?_
  intro p e s m args below meth c ls X hM hret hlk hl
  have hS : dS G s.heap s.heap [] := va_S.rf
  refine lv_iload_n X.1 X.2.1 dJ6_bitCount_0f7a4_0 rfl (lv_at hl 0 rfl) ?_
  refine lv_iload_n X.1 X.2.1 dJ6_bitCount_0f7a4_1 rfl (lv_at hl 0 rfl) ?_
  refine tn_ic (v := 1) X dJ6_bitCount_0f7a4_2 (by decide) ?_
  refine tn_ushr X dJ6_bitCount_0f7a4_3 (by omega) (by omega) ?_
  refine tn_ldcw (w := 1431655765) X kl_J6_265 (by decide) dJ6_bitCount_0f7a4_4 ?_
  refine tn_and X dJ6_bitCount_0f7a4_7 ?_
  refine tn_sub X dJ6_bitCount_0f7a4_8 (Nat.le_trans Nat.and_le_left (by omega)) ?_
  refine lv_istore_n X.1 X.2.1 dJ6_bitCount_0f7a4_9 rfl hl (by decide) rfl (fun ls hl => ?_)
  replace hl : lv_has ls 1 [(0, _)] := hl
  refine lv_iload_n X.1 X.2.1 dJ6_bitCount_0f7a4_10 rfl (lv_at hl 0 rfl) ?_
  refine tn_ldcw (w := 858993459) X kl_J6_266 (by decide) dJ6_bitCount_0f7a4_11 ?_
  refine tn_and X dJ6_bitCount_0f7a4_14 ?_
  refine lv_iload_n X.1 X.2.1 dJ6_bitCount_0f7a4_15 rfl (lv_at hl 0 rfl) ?_
  refine tn_ic (v := 2) X dJ6_bitCount_0f7a4_16 (by decide) ?_
  refine tn_ushr X dJ6_bitCount_0f7a4_17 (bc_b17 a ha) (by omega) ?_
  refine tn_ldcw (w := 858993459) X kl_J6_266 (by decide) dJ6_bitCount_0f7a4_18 ?_
  refine tn_and X dJ6_bitCount_0f7a4_21 ?_
  refine tn_add X dJ6_bitCount_0f7a4_22 ?_
  refine lv_istore_n X.1 X.2.1 dJ6_bitCount_0f7a4_23 rfl hl (by decide) rfl (fun ls hl => ?_)
  replace hl : lv_has ls 1 [(0, _)] := hl
  refine lv_iload_n X.1 X.2.1 dJ6_bitCount_0f7a4_24 rfl (lv_at hl 0 rfl) ?_
  refine lv_iload_n X.1 X.2.1 dJ6_bitCount_0f7a4_25 rfl (lv_at hl 0 rfl) ?_
  refine tn_ic (v := 4) X dJ6_bitCount_0f7a4_26 (by decide) ?_
  refine tn_ushr X dJ6_bitCount_0f7a4_27 (bc_b27 a ha) (by omega) ?_
  refine tn_add X dJ6_bitCount_0f7a4_28 ?_
  refine tn_ldcw (w := 252645135) X kl_J6_267 (by decide) dJ6_bitCount_0f7a4_29 ?_
  refine tn_and X dJ6_bitCount_0f7a4_32 ?_
  refine lv_istore_n X.1 X.2.1 dJ6_bitCount_0f7a4_33 rfl hl (by decide) rfl (fun ls hl => ?_)
  replace hl : lv_has ls 1 [(0, _)] := hl
  refine lv_iload_n X.1 X.2.1 dJ6_bitCount_0f7a4_34 rfl (lv_at hl 0 rfl) ?_
  refine lv_iload_n X.1 X.2.1 dJ6_bitCount_0f7a4_35 rfl (lv_at hl 0 rfl) ?_
  refine tn_bi (v := 8) X dJ6_bitCount_0f7a4_36 (by decide) ?_
  refine tn_ushr X dJ6_bitCount_0f7a4_38 (bc_b38 a ha) (by omega) ?_
  refine tn_add X dJ6_bitCount_0f7a4_39 ?_
  refine lv_istore_n X.1 X.2.1 dJ6_bitCount_0f7a4_40 rfl hl (by decide) rfl (fun ls hl => ?_)
  replace hl : lv_has ls 1 [(0, _)] := hl
  refine lv_iload_n X.1 X.2.1 dJ6_bitCount_0f7a4_41 rfl (lv_at hl 0 rfl) ?_
  refine lv_iload_n X.1 X.2.1 dJ6_bitCount_0f7a4_42 rfl (lv_at hl 0 rfl) ?_
  refine tn_bi (v := 16) X dJ6_bitCount_0f7a4_43 (by decide) ?_
  refine tn_ushr X dJ6_bitCount_0f7a4_45 (bc_b45 a ha) (by omega) ?_
  refine tn_add X dJ6_bitCount_0f7a4_46 ?_
  refine lv_istore_n X.1 X.2.1 dJ6_bitCount_0f7a4_47 rfl hl (by decide) rfl (fun ls hl => ?_)
  replace hl : lv_has ls 1 [(0, _)] := hl
  refine lv_iload_n X.1 X.2.1 dJ6_bitCount_0f7a4_48 rfl (lv_at hl 0 rfl) ?_
  refine tn_bi (v := 63) X dJ6_bitCount_0f7a4_49 (by decide) ?_
  refine tn_and X dJ6_bitCount_0f7a4_51 ?_
  refine tn_as (bc_run a ha) ?_
  exact rI ⟨rfl, rfl⟩ X hM hS hret hlk dJ6_bitCount_0f7a4_52

set_option maxHeartbeats 4000000 in
set_option maxRecDepth 100000 in
theorem c_X3_begin {l : Launch} {G : dG} {ν : Mm} {lo us : Nat}  : cV l yX3_begin cX3_begin 3 0 G [.ref (ra G 21), .int (nI lo), .int (nI us)] ν (fun ν' => ν' = up2 (up2 (up2 (up2 (up2 ν 21 0 lo) 21 1 us) 21 2 0) 21 3 610001) 21 4 610001) := by
  refine cV_of (by decide +kernel) (Nat.le_of_ble_eq_true rfl) ?_
  intro p e s m args below meth c ls X hM hret hlk hl
  have hS : dS G s.heap s.heap [] := va_S.rf
  refine lv_aload_n X.1 X.2.1 dX3_begin_0 rfl (lv_at hl 0 rfl) ?_
  refine lv_iload_n X.1 X.2.1 dX3_begin_1 rfl (lv_at hl 1 rfl) ?_
  refine m_put (ci := 3) (C := RX3) (T := TX3) (N := 5) X hM hS inA3 tyX3_ok nmX3 (by decide) (dE_search G _) rfl 0 (by decide) kl_X3_9 rfl rfl (by decide +kernel) (Nat.le_of_ble_eq_true rfl) (dE_search G _) dX3_begin_2 (fun H locs hM hS => ?_)
  refine lv_aload_n X.1 X.2.1 dX3_begin_5 rfl (lv_at hl 0 rfl) ?_
  refine lv_iload_n X.1 X.2.1 dX3_begin_6 rfl (lv_at hl 2 rfl) ?_
  refine m_put (ci := 3) (C := RX3) (T := TX3) (N := 5) X hM hS inA3 tyX3_ok nmX3 (by decide) (dE_search G _) rfl 1 (by decide) kl_X3_15 rfl rfl (by decide +kernel) (Nat.le_of_ble_eq_true rfl) (dE_search G _) dX3_begin_7 (fun H locs hM hS => ?_)
  refine lv_aload_n X.1 X.2.1 dX3_begin_10 rfl (lv_at hl 0 rfl) ?_
  refine tn_ic (v := 0) X dX3_begin_11 (by decide) ?_
  refine m_put (ci := 3) (C := RX3) (T := TX3) (N := 5) X hM hS inA3 tyX3_ok nmX3 (by decide) (dE_search G _) rfl 2 (by decide) kl_X3_18 rfl rfl (by decide +kernel) (Nat.le_of_ble_eq_true rfl) (dE_search G _) dX3_begin_12 (fun H locs hM hS => ?_)
  refine lv_aload_n X.1 X.2.1 dX3_begin_15 rfl (lv_at hl 0 rfl) ?_
  refine tn_ldc (w := 610001) X kl_X3_21 (by decide) dX3_begin_16 ?_
  refine m_put (ci := 3) (C := RX3) (T := TX3) (N := 5) X hM hS inA3 tyX3_ok nmX3 (by decide) (dE_search G _) rfl 3 (by decide) kl_X3_22 rfl rfl (by decide +kernel) (Nat.le_of_ble_eq_true rfl) (dE_search G _) dX3_begin_18 (fun H locs hM hS => ?_)
  refine lv_aload_n X.1 X.2.1 dX3_begin_21 rfl (lv_at hl 0 rfl) ?_
  refine tn_ldc (w := 610001) X kl_X3_21 (by decide) dX3_begin_22 ?_
  refine m_put (ci := 3) (C := RX3) (T := TX3) (N := 5) X hM hS inA3 tyX3_ok nmX3 (by decide) (dE_search G _) rfl 4 (by decide) kl_X3_25 rfl rfl (by decide +kernel) (Nat.le_of_ble_eq_true rfl) (dE_search G _) dX3_begin_24 (fun H locs hM hS => ?_)
  exact rV rfl X hM hS hret hlk dX3_begin_27

set_option maxHeartbeats 4000000 in
set_option maxRecDepth 100000 in
theorem c_X3_isBetter {l : Launch} {G : dG} {ν : Mm} {st pr : Nat} (h1 : st < 256) (h2 : ν 21 2 < 256) (h3 : pr < 2 ^ 31) (h4 : ν 21 3 < 2 ^ 31) : cI l yX3_isBetter cX3_isBetter 4 (some .boolean) 1 G [.ref (ra G 21), .int (nI st), .int (nI pr)] ν (fun r ν' => r = (if better pr st (ν 21 3) (ν 21 2) then 1 else 0) ∧ ν' = ν) := by
  refine cI_of (by decide +kernel) (Nat.le_of_ble_eq_true rfl) ?_
  intro p e s m args below meth c ls X hM hret hlk hl
  have hS : dS G s.heap s.heap [] := va_S.rf
  refine lv_iload_n X.1 X.2.1 dX3_isBetter_0 rfl (lv_at hl 2 rfl) ?_
  refine lv_aload_n X.1 X.2.1 dX3_isBetter_1 rfl (lv_at hl 0 rfl) ?_
  refine m_get (ci := 3) (C := RX3) (T := TX3) (N := 5) X hM inA3 (by decide) (dE_search G _) rfl 3 (by decide) kl_X3_22 rfl rfl dX3_isBetter_2 ?_
  refine tn_eq (tgt := 22) X dX3_isBetter_5 (by decide) (by omega) (by omega) (fun h5 => ?_) (fun h5 => ?_)
  · refine lv_iload_n X.1 X.2.1 dX3_isBetter_22 rfl (lv_at hl 1 rfl) ?_
    refine kSI (As := [_]) X hM hS hl.1 (c_J6_bitCount_0f7a4 (by assumption)) kl_X3_38 mf_J6_bitCount_0f7a4 ⟨Nat.le_of_ble_eq_true rfl, Nat.le_of_ble_eq_true rfl⟩ ⟨Nat.zero_le _, Nat.zero_le _⟩ rfl (Nat.le_of_ble_eq_true rfl) dX3_isBetter_23 (fun r23 ν23 H locs hp23 hM hS => ?_)
    obtain ⟨rfl, e23⟩ := hp23
    replace e23 := e23.symm
    subst e23
    refine lv_aload_n X.1 X.2.1 dX3_isBetter_26 rfl (lv_at hl 0 rfl) ?_
    refine m_get (ci := 3) (C := RX3) (T := TX3) (N := 5) X hM inA3 (by decide) (dE_search G _) rfl 2 (by decide) kl_X3_18 rfl rfl dX3_isBetter_27 ?_
    refine kSI (As := [_]) X hM hS hl.1 (c_J6_bitCount_0f7a4 (by assumption)) kl_X3_38 mf_J6_bitCount_0f7a4 ⟨Nat.le_of_ble_eq_true rfl, Nat.le_of_ble_eq_true rfl⟩ ⟨Nat.zero_le _, Nat.zero_le _⟩ rfl (Nat.le_of_ble_eq_true rfl) dX3_isBetter_30 (fun r30 ν30 H locs hp30 hM hS => ?_)
    obtain ⟨rfl, e30⟩ := hp30
    replace e30 := e30.symm
    subst e30
    refine tn_subZ X dX3_isBetter_33 ?_
    refine lv_istore_n X.1 X.2.1 dX3_isBetter_34 rfl hl (by decide) rfl (fun ls hl => ?_)
    replace hl : lv_has ls 4 [(3, _), (0, _), (1, _), (2, _)] := hl
    refine lv_iload_n X.1 X.2.1 dX3_isBetter_35 rfl (lv_at hl 0 rfl) ?_
    refine tn_ltZ (tgt := 51) X dX3_isBetter_36 (by decide) (by have := bc_le st; omega) (by have := bc_le (ν 21 2); omega) (fun h36 => ?_) (fun h36 => ?_)
    · refine tn_ic (v := 1) X dX3_isBetter_51 (by decide) ?_
      refine lv_goto (tgt := 56) X.1 X.2.1 dX3_isBetter_52 (by decide) ?_
      exact rZ ⟨(if_pos (by unfold better; omega)).symm, rfl⟩ X hM hS hret hlk (by omega) dX3_isBetter_56
    · refine lv_iload_n X.1 X.2.1 dX3_isBetter_39 rfl (lv_at hl 0 rfl) ?_
      refine tn_neZ (tgt := 55) X dX3_isBetter_40 (by decide) (by have := bc_le st; omega) (by have := bc_le (ν 21 2); omega) (fun h40 => ?_) (fun h40 => ?_)
      · refine tn_ic (v := 0) X dX3_isBetter_55 (by decide) ?_
        exact rZ ⟨(if_neg (by unfold better; omega)).symm, rfl⟩ X hM hS hret hlk (by omega) dX3_isBetter_56
      · refine lv_iload_n X.1 X.2.1 dX3_isBetter_43 rfl (lv_at hl 2 rfl) ?_
        refine lv_aload_n X.1 X.2.1 dX3_isBetter_44 rfl (lv_at hl 1 rfl) ?_
        refine m_get (ci := 3) (C := RX3) (T := TX3) (N := 5) X hM inA3 (by decide) (dE_search G _) rfl 2 (by decide) kl_X3_18 rfl rfl dX3_isBetter_45 ?_
        refine tn_ge (tgt := 55) X dX3_isBetter_48 (by decide) (by omega) (by omega) (fun h48 => ?_) (fun h48 => ?_)
        · refine tn_ic (v := 0) X dX3_isBetter_55 (by decide) ?_
          exact rZ ⟨(if_neg (by unfold better; omega)).symm, rfl⟩ X hM hS hret hlk (by omega) dX3_isBetter_56
        · refine tn_ic (v := 1) X dX3_isBetter_51 (by decide) ?_
          refine lv_goto (tgt := 56) X.1 X.2.1 dX3_isBetter_52 (by decide) ?_
          exact rZ ⟨(if_pos (by unfold better; omega)).symm, rfl⟩ X hM hS hret hlk (by omega) dX3_isBetter_56
  · refine lv_iload_n X.1 X.2.1 dX3_isBetter_8 rfl (lv_at hl 2 rfl) ?_
    refine lv_aload_n X.1 X.2.1 dX3_isBetter_9 rfl (lv_at hl 0 rfl) ?_
    refine m_get (ci := 3) (C := RX3) (T := TX3) (N := 5) X hM inA3 (by decide) (dE_search G _) rfl 3 (by decide) kl_X3_22 rfl rfl dX3_isBetter_10 ?_
    refine tn_ge (tgt := 20) X dX3_isBetter_13 (by decide) (by omega) (by omega) (fun h13 => ?_) (fun h13 => ?_)
    · refine tn_ic (v := 0) X dX3_isBetter_20 (by decide) ?_
      exact rZ ⟨(if_neg (by unfold better; omega)).symm, rfl⟩ X hM hS hret hlk (by omega) dX3_isBetter_21
    · refine tn_ic (v := 1) X dX3_isBetter_16 (by decide) ?_
      refine lv_goto (tgt := 21) X.1 X.2.1 dX3_isBetter_17 (by decide) ?_
      exact rZ ⟨(if_pos (by unfold better; omega)).symm, rfl⟩ X hM hS hret hlk (by omega) dX3_isBetter_21

set_option maxHeartbeats 4000000 in
set_option maxRecDepth 100000 in
theorem c_X3_offer {l : Launch} {G : dG} {ν : Mm} {st pr : Nat} (h1 : st < 256) (h2 : ν 21 2 < 256) (h3 : pr < 2 ^ 31) (h4 : ν 21 3 < 2 ^ 31) (h5 : ν 21 4 < 2 ^ 31) : cV l yX3_offer cX3_offer 3 2 G [.ref (ra G 21), .int (nI st), .int (nI pr)] ν (fun ν' => ν' = offerM ν st pr) := by
  refine cV_of (by decide +kernel) (Nat.le_of_ble_eq_true rfl) ?_
  intro p e s m args below meth c ls X hM hret hlk hl
  have hS : dS G s.heap s.heap [] := va_S.rf
  refine lv_iload_n X.1 X.2.1 dX3_offer_0 rfl (lv_at hl 1 rfl) ?_
  refine lv_aload_n X.1 X.2.1 dX3_offer_1 rfl (lv_at hl 0 rfl) ?_
  refine m_get (ci := 3) (C := RX3) (T := TX3) (N := 5) X hM inA3 (by decide) (dE_search G _) rfl 0 (by decide) kl_X3_9 rfl rfl dX3_offer_2 ?_
  refine tn_and X dX3_offer_5 ?_
  refine tn_ne0 (tgt := 21) X dX3_offer_6 (by decide) (Nat.lt_of_le_of_lt Nat.and_le_left (by omega)) (fun h6 => ?_) (fun h6 => ?_)
  · refine lv_aload_n X.1 X.2.1 dX3_offer_21 rfl (lv_at hl 0 rfl) ?_
    refine lv_iload_n X.1 X.2.1 dX3_offer_22 rfl (lv_at hl 1 rfl) ?_
    refine lv_iload_n X.1 X.2.1 dX3_offer_23 rfl (lv_at hl 2 rfl) ?_
    refine kVI (As := [_, _]) X hM hS hl.1 (c_X3_isBetter h1 h2 h3 h4) (by decide) (dE_search G _) rfl rfl kl_X3_34 mf_X3_isBetter ⟨Nat.le_of_ble_eq_true rfl, Nat.le_of_ble_eq_true rfl⟩ ⟨Nat.zero_le _, Nat.zero_le _⟩ rfl (Nat.le_of_ble_eq_true rfl) dX3_offer_24 (fun r24 ν24 H locs hp24 hM hS => ?_)
    obtain ⟨rfl, e24⟩ := hp24
    replace e24 := e24.symm
    subst e24
    refine tn_eq0 (tgt := 40) X dX3_offer_27 (by decide) (by split <;> decide) (fun h27 => ?_) (fun h27 => ?_)
    · exact rV (offer_nn h6 (ite0 h27)) X hM hS hret hlk dX3_offer_40
    · refine lv_aload_n X.1 X.2.1 dX3_offer_30 rfl (lv_at hl 0 rfl) ?_
      refine lv_iload_n X.1 X.2.1 dX3_offer_31 rfl (lv_at hl 1 rfl) ?_
      refine m_put (ci := 3) (C := RX3) (T := TX3) (N := 5) X hM hS inA3 tyX3_ok nmX3 (by decide) (dE_search G _) rfl 2 (by decide) kl_X3_18 rfl rfl (by decide +kernel) (Nat.le_of_ble_eq_true rfl) (dE_search G _) dX3_offer_32 (fun H locs hM hS => ?_)
      refine lv_aload_n X.1 X.2.1 dX3_offer_35 rfl (lv_at hl 0 rfl) ?_
      refine lv_iload_n X.1 X.2.1 dX3_offer_36 rfl (lv_at hl 2 rfl) ?_
      refine m_put (ci := 3) (C := RX3) (T := TX3) (N := 5) X hM hS inA3 tyX3_ok nmX3 (by decide) (dE_search G _) rfl 3 (by decide) kl_X3_22 rfl rfl (by decide +kernel) (Nat.le_of_ble_eq_true rfl) (dE_search G _) dX3_offer_37 (fun H locs hM hS => ?_)
      exact rV (offer_np h6 (ite1 h27)) X hM hS hret hlk dX3_offer_40
  · refine lv_aload_n X.1 X.2.1 dX3_offer_9 rfl (lv_at hl 0 rfl) ?_
    refine lv_aload_n X.1 X.2.1 dX3_offer_10 rfl (lv_at hl 0 rfl) ?_
    refine m_get (ci := 3) (C := RX3) (T := TX3) (N := 5) X hM inA3 (by decide) (dE_search G _) rfl 4 (by decide) kl_X3_25 rfl rfl dX3_offer_11 ?_
    refine lv_iload_n X.1 X.2.1 dX3_offer_14 rfl (lv_at hl 2 rfl) ?_
    refine tn_min X hl.1 kl_X3_28 (Nat.le_of_ble_eq_true rfl) (Nat.le_of_ble_eq_true rfl) (Nat.zero_le _) (Nat.zero_le _) (by omega) (by omega) dX3_offer_15 ?_
    refine m_put (ci := 3) (C := RX3) (T := TX3) (N := 5) X hM hS inA3 tyX3_ok nmX3 (by decide) (dE_search G _) rfl 4 (by decide) kl_X3_25 rfl rfl (by decide +kernel) (Nat.le_of_ble_eq_true rfl) (dE_search G _) dX3_offer_18 (fun H locs hM hS => ?_)
    refine lv_aload_n X.1 X.2.1 dX3_offer_21 rfl (lv_at hl 0 rfl) ?_
    refine lv_iload_n X.1 X.2.1 dX3_offer_22 rfl (lv_at hl 1 rfl) ?_
    refine lv_iload_n X.1 X.2.1 dX3_offer_23 rfl (lv_at hl 2 rfl) ?_
    refine kVI (As := [_, _]) X hM hS hl.1 (c_X3_isBetter h1 (by rw [up2_ne2 (by decide)]; exact h2) h3 (by rw [up2_ne2 (by decide)]; exact h4)) (by decide) (dE_search G _) rfl rfl kl_X3_34 mf_X3_isBetter ⟨Nat.le_of_ble_eq_true rfl, Nat.le_of_ble_eq_true rfl⟩ ⟨Nat.zero_le _, Nat.zero_le _⟩ rfl (Nat.le_of_ble_eq_true rfl) dX3_offer_24 (fun r24 ν24 H locs hp24 hM hS => ?_)
    obtain ⟨rfl, e24⟩ := hp24
    replace e24 := e24.symm
    subst e24
    refine tn_eq0 (tgt := 40) X dX3_offer_27 (by decide) (by split <;> decide) (fun h27 => ?_) (fun h27 => ?_)
    · exact rV (offer_pn h6 (ite0 h27)) X hM hS hret hlk dX3_offer_40
    · refine lv_aload_n X.1 X.2.1 dX3_offer_30 rfl (lv_at hl 0 rfl) ?_
      refine lv_iload_n X.1 X.2.1 dX3_offer_31 rfl (lv_at hl 1 rfl) ?_
      refine m_put (ci := 3) (C := RX3) (T := TX3) (N := 5) X hM hS inA3 tyX3_ok nmX3 (by decide) (dE_search G _) rfl 2 (by decide) kl_X3_18 rfl rfl (by decide +kernel) (Nat.le_of_ble_eq_true rfl) (dE_search G _) dX3_offer_32 (fun H locs hM hS => ?_)
      refine lv_aload_n X.1 X.2.1 dX3_offer_35 rfl (lv_at hl 0 rfl) ?_
      refine lv_iload_n X.1 X.2.1 dX3_offer_36 rfl (lv_at hl 2 rfl) ?_
      refine m_put (ci := 3) (C := RX3) (T := TX3) (N := 5) X hM hS inA3 tyX3_ok nmX3 (by decide) (dE_search G _) rfl 3 (by decide) kl_X3_22 rfl rfl (by decide +kernel) (Nat.le_of_ble_eq_true rfl) (dE_search G _) dX3_offer_37 (fun H locs hM hS => ?_)
      exact rV (offer_pp h6 (ite1 h27)) X hM hS hret hlk dX3_offer_40

set_option maxHeartbeats 4000000 in
set_option maxRecDepth 100000 in
theorem c_J7_fill_53178 {l : Launch} {G : dG} {ν : Mm} {L x : Nat} (hL : lotB L) : cV l yJ7_fill_53178 cJ7_fill_53178 4 0 G [.ref (ra G (L + 3)), .int (nI x)] ν (fun ν' => ν' = va_up ν (L + 3) (fun a => if a < 10 then x else ν (L + 3) a)) := by
  refine cV_of (by decide +kernel) (Nat.le_of_ble_eq_true rfl) ?_
  intro p e s m args below meth c ls X hM hret hlk hl
  have hS : dS G s.heap s.heap [] := va_S.rf
  refine tn_ic (v := 0) X dJ7_fill_53178_0 (by decide) ?_
  refine lv_istore_n X.1 X.2.1 dJ7_fill_53178_1 rfl hl (by decide) rfl (fun ls hl => ?_)
  replace hl : lv_has ls 4 [(2, _), (0, _), (1, _)] := hl
  refine lv_aload_n X.1 X.2.1 dJ7_fill_53178_2 rfl (lv_at hl 1 rfl) ?_
  refine m_alen X hM (by have := lotB.lt hL; omega) (dE_lotA hL (by decide) (by decide) G _) dJ7_fill_53178_3 ?_
  refine lv_istore_n X.1 X.2.1 dJ7_fill_53178_4 rfl hl (by decide) rfl (fun ls hl => ?_)
  replace hl : lv_has ls 4 [(3, _), (2, _), (0, _), (1, _)] := hl
  have Lp : ∀ (k : Nat) (a : Nat), a + k = 10 → ∀ (ls : Array Slot) (H : Heap) (locs : List Loc), dM G (va_up ν (L + 3) (fun b => if b < a then x else ν (L + 3) b)) H → dS G s.heap H locs → lv_has ls 4 [(0, .ref (ra G (L + 3))), (1, .int (nI x)), (2, .int (nI a)), (3, .int (nI 10))] → W p l e (rmD 0) s m args below meth c H locs 0 0 (MQ below (dQv G s.heap.size (fun ν' => ν' = va_up ν (L + 3) (fun a => if a < 10 then x else ν (L + 3) a))) args s 0 0 (dA G s.heap.size)) (F0 m 5 ls []) := by
    intro k
    induction k with
    | zero =>
      intro a ha ls H locs hM hS hl
      refine lv_iload_n X.1 X.2.1 dJ7_fill_53178_5 rfl (lv_at hl 2 rfl) ?_
      refine lv_iload_n X.1 X.2.1 dJ7_fill_53178_6 rfl (lv_at hl 3 rfl) ?_
      refine tn_ge (tgt := 20) X dJ7_fill_53178_7 (by decide) (by omega) (by omega) (fun h7 => ?_) (fun h7 => ?_)
      · exact rV (by rw [show a = 10 by omega]) X hM hS hret hlk dJ7_fill_53178_20
      · exfalso; omega
    | succ k ih =>
      intro a ha ls H locs hM hS hl
      refine lv_iload_n X.1 X.2.1 dJ7_fill_53178_5 rfl (lv_at hl 2 rfl) ?_
      refine lv_iload_n X.1 X.2.1 dJ7_fill_53178_6 rfl (lv_at hl 3 rfl) ?_
      refine tn_ge (tgt := 20) X dJ7_fill_53178_7 (by decide) (by omega) (by omega) (fun h7 => ?_) (fun h7 => ?_)
      · exfalso; omega
      · refine lv_aload_n X.1 X.2.1 dJ7_fill_53178_10 rfl (lv_at hl 0 rfl) ?_
        refine lv_iload_n X.1 X.2.1 dJ7_fill_53178_11 rfl (lv_at hl 2 rfl) ?_
        refine lv_iload_n X.1 X.2.1 dJ7_fill_53178_12 rfl (lv_at hl 1 rfl) ?_
        refine m_iast X hM hS (by have := lotB.lt hL; omega) (fun _ => (dE_lotA hL (by decide) (by decide) G _)) (by omega) (by decide) dJ7_fill_53178_13 (fun H locs hM hS => ?_)
        refine tn_inc (k := 2) (w := 1) X dJ7_fill_53178_14 hl rfl (by decide) (by decide) rfl (fun ls hl => ?_)
        replace hl : lv_has ls 4 [(2, _), (0, _), (1, _), (3, _)] := hl
        refine lv_goto (tgt := 5) X.1 X.2.1 dJ7_fill_53178_17 (by decide) ?_
        exact ih (a + 1) (by omega) ls H locs (by rw [fill_step] at hM; exact hM) hS (lv_sub hl [1, 2, 0, 3] rfl)
  exact Lp 10 0 (by omega) ls _ _ (by rw [fill_zero]; exact hM) hS (lv_sub hl [2, 3, 1, 0] rfl)

set_option maxHeartbeats 4000000 in
set_option maxRecDepth 100000 in
theorem c_X1_removeAllPieces {l : Launch} {G : dG} {ν : Mm} {L : Nat} (hL : lotB L) : cV l yX1_removeAllPieces cX1_removeAllPieces 1 1 G [.ref (ra G L)] ν (fun ν' => ν' = va_up ν (L + 3) (fun a => if a < 10 then 0 else ν (L + 3) a)) := by
  refine cV_of (by decide +kernel) (Nat.le_of_ble_eq_true rfl) ?_
  intro p e s m args below meth c ls X hM hret hlk hl
  have hS : dS G s.heap s.heap [] := va_S.rf
  refine lv_aload_n X.1 X.2.1 dX1_removeAllPieces_0 rfl (lv_at hl 0 rfl) ?_
  refine m_get (ci := 1) (C := RX1) (T := TX1) (N := 3) X hM inA1 (by have := lotB.lt hL; omega) (dE_lot hL G _) rfl 2 (by decide) kl_X1_18 rfl rfl dX1_removeAllPieces_1 ?_
  refine tn_ic (v := 0) X dX1_removeAllPieces_4 (by decide) ?_
  refine kSV (As := [_, _]) X hM hS hl.1 (c_J7_fill_53178 hL) kl_X1_27 mf_J7_fill_53178 ⟨Nat.le_of_ble_eq_true rfl, Nat.le_of_ble_eq_true rfl⟩ ⟨Nat.zero_le _, Nat.zero_le _⟩ rfl (Nat.le_of_ble_eq_true rfl) dX1_removeAllPieces_5 (fun ν5 H locs hp5 hM hS => ?_)
  replace hp5 := hp5.symm
  subst hp5
  exact rV rfl X hM hS hret hlk dX1_removeAllPieces_8

set_option maxHeartbeats 4000000 in
set_option maxRecDepth 100000 in
theorem c_X1_copyFrom {l : Launch} {G : dG} {ν : Mm} {L K : Nat} (hL : lotB L) (hK : lotB K) : cV l yX1_copyFrom cX1_copyFrom 2 1 G [.ref (ra G L), .ref (ra G K)] ν (fun ν' => ν' = cpLot ν K L) := by
  refine cV_of (by decide +kernel) (Nat.le_of_ble_eq_true rfl) ?_
  intro p e s m args below meth c ls X hM hret hlk hl
  have hS : dS G s.heap s.heap [] := va_S.rf
  refine lv_aload_n X.1 X.2.1 dX1_copyFrom_0 rfl (lv_at hl 1 rfl) ?_
  refine m_get (ci := 1) (C := RX1) (T := TX1) (N := 3) X hM inA1 (by have := lotB.lt hK; omega) (dE_lot hK G _) rfl 0 (by decide) kl_X1_9 rfl rfl dX1_copyFrom_1 ?_
  refine tn_ic (v := 0) X dX1_copyFrom_4 (by decide) ?_
  refine lv_aload_n X.1 X.2.1 dX1_copyFrom_5 rfl (lv_at hl 0 rfl) ?_
  refine m_get (ci := 1) (C := RX1) (T := TX1) (N := 3) X hM inA1 (by have := lotB.lt hL; omega) (dE_lot hL G _) rfl 0 (by decide) kl_X1_9 rfl rfl dX1_copyFrom_6 ?_
  refine tn_ic (v := 0) X dX1_copyFrom_9 (by decide) ?_
  refine tn_bi (v := 10) X dX1_copyFrom_10 (by decide) ?_
  refine tn_copy X hM hS hl.1 kl_X1_21 (by have := lotB.lt hK; omega) (by have := lotB.lt hL; omega) (dE_lotA hK (by decide) (by decide) G _) (fun _ => (dE_lotA hL (by decide) (by decide) G _)) (by omega) (by decide) (Nat.le_of_ble_eq_true rfl) (Nat.le_of_ble_eq_true rfl) (Nat.le_of_ble_eq_true rfl) dX1_copyFrom_12 (fun H locs hM hS => ?_)
  refine lv_aload_n X.1 X.2.1 dX1_copyFrom_15 rfl (lv_at hl 1 rfl) ?_
  refine m_get (ci := 1) (C := RX1) (T := TX1) (N := 3) X hM inA1 (by have := lotB.lt hK; omega) (dE_lot hK G _) rfl 1 (by decide) kl_X1_15 rfl rfl dX1_copyFrom_16 ?_
  refine tn_ic (v := 0) X dX1_copyFrom_19 (by decide) ?_
  refine lv_aload_n X.1 X.2.1 dX1_copyFrom_20 rfl (lv_at hl 0 rfl) ?_
  refine m_get (ci := 1) (C := RX1) (T := TX1) (N := 3) X hM inA1 (by have := lotB.lt hL; omega) (dE_lot hL G _) rfl 1 (by decide) kl_X1_15 rfl rfl dX1_copyFrom_21 ?_
  refine tn_ic (v := 0) X dX1_copyFrom_24 (by decide) ?_
  refine tn_bi (v := 10) X dX1_copyFrom_25 (by decide) ?_
  refine tn_copy X hM hS hl.1 kl_X1_21 (by have := lotB.lt hK; omega) (by have := lotB.lt hL; omega) (dE_lotA hK (by decide) (by decide) G _) (fun _ => (dE_lotA hL (by decide) (by decide) G _)) (by omega) (by decide) (Nat.le_of_ble_eq_true rfl) (Nat.le_of_ble_eq_true rfl) (Nat.le_of_ble_eq_true rfl) dX1_copyFrom_27 (fun H locs hM hS => ?_)
  refine lv_aload_n X.1 X.2.1 dX1_copyFrom_30 rfl (lv_at hl 1 rfl) ?_
  refine m_get (ci := 1) (C := RX1) (T := TX1) (N := 3) X hM inA1 (by have := lotB.lt hK; omega) (dE_lot hK G _) rfl 2 (by decide) kl_X1_18 rfl rfl dX1_copyFrom_31 ?_
  refine tn_ic (v := 0) X dX1_copyFrom_34 (by decide) ?_
  refine lv_aload_n X.1 X.2.1 dX1_copyFrom_35 rfl (lv_at hl 0 rfl) ?_
  refine m_get (ci := 1) (C := RX1) (T := TX1) (N := 3) X hM inA1 (by have := lotB.lt hL; omega) (dE_lot hL G _) rfl 2 (by decide) kl_X1_18 rfl rfl dX1_copyFrom_36 ?_
  refine tn_ic (v := 0) X dX1_copyFrom_39 (by decide) ?_
  refine tn_bi (v := 10) X dX1_copyFrom_40 (by decide) ?_
  refine tn_copy X hM hS hl.1 kl_X1_21 (by have := lotB.lt hK; omega) (by have := lotB.lt hL; omega) (dE_lotA hK (by decide) (by decide) G _) (fun _ => (dE_lotA hL (by decide) (by decide) G _)) (by omega) (by decide) (Nat.le_of_ble_eq_true rfl) (Nat.le_of_ble_eq_true rfl) (Nat.le_of_ble_eq_true rfl) dX1_copyFrom_42 (fun H locs hM hS => ?_)
  exact rV rfl X hM hS hret hlk dX1_copyFrom_45

set_option maxHeartbeats 4000000 in
set_option maxRecDepth 100000 in
theorem c_X0_become {l : Launch} {G : dG} {ν : Mm} {q a b c1 d1 e1 : Nat} (hq : q < 8) : cV l yX0_become cX0_become 6 0 G [.ref (ra G (22 + q)), .int (nI a), .int (nI b), .int (nI c1), .int (nI d1), .int (nI e1)] ν (fun ν' => ν' = up2 (up2 (up2 (up2 (up2 (up2 ν (22 + q) 0 a) (22 + q) 1 b) (22 + q) 2 c1) (22 + q) 3 d1) (22 + q) 4 e1) (22 + q) 5 9) := by
  refine cV_of (by decide +kernel) (Nat.le_of_ble_eq_true rfl) ?_
  intro p e s m args below meth c ls X hM hret hlk hl
  have hS : dS G s.heap s.heap [] := va_S.rf
  refine lv_aload_n X.1 X.2.1 dX0_become_0 rfl (lv_at hl 0 rfl) ?_
  refine lv_iload_n X.1 X.2.1 dX0_become_1 rfl (lv_at hl 1 rfl) ?_
  refine m_put (ci := 0) (C := RX0) (T := TX0) (N := 6) X hM hS inA0 tyX0_ok nmX0 (by omega) (dE_cou hq G _) rfl 0 (by decide) kl_X0_9 rfl rfl (by decide +kernel) (Nat.le_of_ble_eq_true rfl) (dE_cou hq G _) dX0_become_2 (fun H locs hM hS => ?_)
  refine lv_aload_n X.1 X.2.1 dX0_become_5 rfl (lv_at hl 0 rfl) ?_
  refine lv_iload_n X.1 X.2.1 dX0_become_6 rfl (lv_at hl 2 rfl) ?_
  refine m_put (ci := 0) (C := RX0) (T := TX0) (N := 6) X hM hS inA0 tyX0_ok nmX0 (by omega) (dE_cou hq G _) rfl 1 (by decide) kl_X0_15 rfl rfl (by decide +kernel) (Nat.le_of_ble_eq_true rfl) (dE_cou hq G _) dX0_become_7 (fun H locs hM hS => ?_)
  refine lv_aload_n X.1 X.2.1 dX0_become_10 rfl (lv_at hl 0 rfl) ?_
  refine lv_iload_n X.1 X.2.1 dX0_become_11 rfl (lv_at hl 3 rfl) ?_
  refine m_put (ci := 0) (C := RX0) (T := TX0) (N := 6) X hM hS inA0 tyX0_ok nmX0 (by omega) (dE_cou hq G _) rfl 2 (by decide) kl_X0_18 rfl rfl (by decide +kernel) (Nat.le_of_ble_eq_true rfl) (dE_cou hq G _) dX0_become_12 (fun H locs hM hS => ?_)
  refine lv_aload_n X.1 X.2.1 dX0_become_15 rfl (lv_at hl 0 rfl) ?_
  refine lv_iload X.1 X.2.1 dX0_become_16 (lv_at hl 4 rfl) ?_
  refine m_put (ci := 0) (C := RX0) (T := TX0) (N := 6) X hM hS inA0 tyX0_ok nmX0 (by omega) (dE_cou hq G _) rfl 3 (by decide) kl_X0_21 rfl rfl (by decide +kernel) (Nat.le_of_ble_eq_true rfl) (dE_cou hq G _) dX0_become_18 (fun H locs hM hS => ?_)
  refine lv_aload_n X.1 X.2.1 dX0_become_21 rfl (lv_at hl 0 rfl) ?_
  refine lv_iload X.1 X.2.1 dX0_become_22 (lv_at hl 5 rfl) ?_
  refine m_put (ci := 0) (C := RX0) (T := TX0) (N := 6) X hM hS inA0 tyX0_ok nmX0 (by omega) (dE_cou hq G _) rfl 4 (by decide) kl_X0_24 rfl rfl (by decide +kernel) (Nat.le_of_ble_eq_true rfl) (dE_cou hq G _) dX0_become_24 (fun H locs hM hS => ?_)
  refine lv_aload_n X.1 X.2.1 dX0_become_27 rfl (lv_at hl 0 rfl) ?_
  refine tn_bi (v := 9) X dX0_become_28 (by decide) ?_
  refine m_put (ci := 0) (C := RX0) (T := TX0) (N := 6) X hM hS inA0 tyX0_ok nmX0 (by omega) (dE_cou hq G _) rfl 5 (by decide) kl_X0_27 rfl rfl (by decide +kernel) (Nat.le_of_ble_eq_true rfl) (dE_cou hq G _) dX0_become_30 (fun H locs hM hS => ?_)
  exact rV rfl X hM hS hret hlk dX0_become_33

set_option maxHeartbeats 4000000 in
set_option maxRecDepth 100000 in
theorem c_X2_become {l : Launch} {G : dG} {ν : Mm} {q K a f g : Nat} (hq : q < 12) (hK : lotB K) : cV l yX2_become cX2_become 5 2 G [.ref (ra G (30 + 5 * q)), .ref (ra G K), .int (nI a), .int (nI f), .int (nI g)] ν (fun ν' => ν' = up2 (up2 (up2 (cpLot ν K (31 + 5 * q)) (30 + 5 * q) 1 a) (30 + 5 * q) 2 f) (30 + 5 * q) 3 g) := by
  refine cV_of (by decide +kernel) (Nat.le_of_ble_eq_true rfl) ?_
  intro p e s m args below meth c ls X hM hret hlk hl
  have hS : dS G s.heap s.heap [] := va_S.rf
  refine lv_aload_n X.1 X.2.1 dX2_become_0 rfl (lv_at hl 0 rfl) ?_
  refine m_get (ci := 2) (C := RX2) (T := TX2) (N := 4) X hM inA2 (by omega) (dE_ord hq G _) rfl 0 (by decide) kl_X2_12 rfl rfl dX2_become_1 ?_
  refine lv_aload_n X.1 X.2.1 dX2_become_4 rfl (lv_at hl 1 rfl) ?_
  refine kNV (As := [_]) X hM hS hl.1 (c_X1_copyFrom (lotB_o hq) hK) (by have := lotB.lt (lotB_o hq); omega) (dE_lot (lotB_o hq) G _) rfl rfl kl_X2_28 mf_X1_copyFrom ⟨Nat.le_of_ble_eq_true rfl, Nat.le_of_ble_eq_true rfl⟩ ⟨Nat.zero_le _, Nat.zero_le _⟩ rfl (Nat.le_of_ble_eq_true rfl) dX2_become_5 (fun ν5 H locs hp5 hM hS => ?_)
  replace hp5 := hp5.symm
  subst hp5
  refine lv_aload_n X.1 X.2.1 dX2_become_8 rfl (lv_at hl 0 rfl) ?_
  refine lv_iload_n X.1 X.2.1 dX2_become_9 rfl (lv_at hl 2 rfl) ?_
  refine m_put (ci := 2) (C := RX2) (T := TX2) (N := 4) X hM hS inA2 tyX2_ok nmX2 (by omega) (dE_ord hq G _) rfl 1 (by decide) kl_X2_18 rfl rfl (by decide +kernel) (Nat.le_of_ble_eq_true rfl) (dE_ord hq G _) dX2_become_10 (fun H locs hM hS => ?_)
  refine lv_aload_n X.1 X.2.1 dX2_become_13 rfl (lv_at hl 0 rfl) ?_
  refine lv_iload_n X.1 X.2.1 dX2_become_14 rfl (lv_at hl 3 rfl) ?_
  refine m_put (ci := 2) (C := RX2) (T := TX2) (N := 4) X hM hS inA2 tyX2_ok nmX2 (by omega) (dE_ord hq G _) rfl 2 (by decide) kl_X2_22 rfl rfl (by decide +kernel) (Nat.le_of_ble_eq_true rfl) (dE_ord hq G _) dX2_become_15 (fun H locs hM hS => ?_)
  refine lv_aload_n X.1 X.2.1 dX2_become_18 rfl (lv_at hl 0 rfl) ?_
  refine lv_iload X.1 X.2.1 dX2_become_19 (lv_at hl 4 rfl) ?_
  refine m_put (ci := 2) (C := RX2) (T := TX2) (N := 4) X hM hS inA2 tyX2_ok nmX2 (by omega) (dE_ord hq G _) rfl 3 (by decide) kl_X2_25 rfl rfl (by decide +kernel) (Nat.le_of_ble_eq_true rfl) (dE_ord hq G _) dX2_become_21 (fun H locs hM hS => ?_)
  exact rV rfl X hM hS hret hlk dX2_become_24

set_option maxHeartbeats 4000000 in
set_option maxRecDepth 100000 in
theorem c_X2_tell {l : Launch} {G : dG} {ν : Mm} {q x : Nat} (hq : q < 12) (hx : x < 2 ^ 31) (hC : ∀ a, a < 10 → ν (31 + 5 * q + 2) a < 32) : cI l yX2_tell cX2_tell 2 (some .int) 1 G [.ref (ra G (30 + 5 * q)), .int (nI x)] ν (fun r ν' => r = tellF ν q x ∧ ν' = ν) := by
  refine cI_of (by decide +kernel) (Nat.le_of_ble_eq_true rfl) ?_
  intro p e s m args below meth c ls X hM hret hlk hl
  have hS : dS G s.heap s.heap [] := va_S.rf
  refine lv_iload_n X.1 X.2.1 dX2_tell_0 rfl (lv_at hl 1 rfl) ?_
  rcases (show x = 0 ∨ x = 1 ∨ x = 2 ∨ x = 3 ∨ 3 < x by omega) with h1 | h1 | h1 | h1 | h1
  · refine tn_as h1 ?_
    refine tn_swI (a := 0) (tgt := 32) X dX2_tell_1 (by decide) (by decide) (by decide) rfl (by decide) ?_
    refine lv_aload_n X.1 X.2.1 dX2_tell_32 rfl (lv_at hl 0 rfl) ?_
    refine m_get (ci := 2) (C := RX2) (T := TX2) (N := 4) X hM inA2 (by omega) (dE_ord hq G _) rfl 3 (by decide) kl_X2_25 rfl rfl dX2_tell_33 ?_
    exact rI ⟨by rw [h1]; rfl, rfl⟩ X hM hS hret hlk dX2_tell_36
  · refine tn_as h1 ?_
    refine tn_swI (a := 1) (tgt := 37) X dX2_tell_1 (by decide) (by decide) (by decide) rfl (by decide) ?_
    refine lv_aload_n X.1 X.2.1 dX2_tell_37 rfl (lv_at hl 0 rfl) ?_
    refine m_get (ci := 2) (C := RX2) (T := TX2) (N := 4) X hM inA2 (by omega) (dE_ord hq G _) rfl 2 (by decide) kl_X2_22 rfl rfl dX2_tell_38 ?_
    exact rI ⟨by rw [h1]; rfl, rfl⟩ X hM hS hret hlk dX2_tell_41
  · refine tn_as h1 ?_
    refine tn_swI (a := 2) (tgt := 42) X dX2_tell_1 (by decide) (by decide) (by decide) rfl (by decide) ?_
    refine lv_aload_n X.1 X.2.1 dX2_tell_42 rfl (lv_at hl 0 rfl) ?_
    refine m_get (ci := 2) (C := RX2) (T := TX2) (N := 4) X hM inA2 (by omega) (dE_ord hq G _) rfl 1 (by decide) kl_X2_18 rfl rfl dX2_tell_43 ?_
    exact rI ⟨by rw [h1]; rfl, rfl⟩ X hM hS hret hlk dX2_tell_46
  · refine tn_as h1 ?_
    refine tn_swI (a := 3) (tgt := 47) X dX2_tell_1 (by decide) (by decide) (by decide) rfl (by decide) ?_
    refine lv_aload_n X.1 X.2.1 dX2_tell_47 rfl (lv_at hl 0 rfl) ?_
    refine m_get (ci := 2) (C := RX2) (T := TX2) (N := 4) X hM inA2 (by omega) (dE_ord hq G _) rfl 0 (by decide) kl_X2_12 rfl rfl dX2_tell_48 ?_
    refine kNI (As := []) X hM hS hl.1 (c_X1_countOfPieces (lotB_o hq)) (by have := lotB.lt (lotB_o hq); omega) (dE_lot (lotB_o hq) G _) rfl rfl kl_X2_32 mf_X1_countOfPieces ⟨Nat.le_of_ble_eq_true rfl, Nat.le_of_ble_eq_true rfl⟩ ⟨Nat.zero_le _, Nat.zero_le _⟩ rfl (Nat.le_of_ble_eq_true rfl) dX2_tell_51 (fun r51 ν51 H locs hp51 hM hS => ?_)
    obtain ⟨rfl, e51⟩ := hp51
    replace e51 := e51.symm
    subst e51
    exact rI ⟨by rw [h1]; rfl, rfl⟩ X hM hS hret hlk dX2_tell_54
  · refine tn_swO (tgt := 55) X dX2_tell_1 (by omega) (Or.inr (by omega)) (by decide) ?_
    refine lv_aload_n X.1 X.2.1 dX2_tell_55 rfl (lv_at hl 0 rfl) ?_
    refine m_get (ci := 2) (C := RX2) (T := TX2) (N := 4) X hM inA2 (by omega) (dE_ord hq G _) rfl 0 (by decide) kl_X2_12 rfl rfl dX2_tell_56 ?_
    refine tn_si (v := 255) X dX2_tell_59 (by decide) ?_
    refine kNI (As := [_]) X hM hS hl.1 (c_X1_pricesIn (lotB_o hq) (by decide) hC) (by have := lotB.lt (lotB_o hq); omega) (dE_lot (lotB_o hq) G _) rfl rfl kl_X2_36 mf_X1_pricesIn ⟨Nat.le_of_ble_eq_true rfl, Nat.le_of_ble_eq_true rfl⟩ ⟨Nat.zero_le _, Nat.zero_le _⟩ rfl (Nat.le_of_ble_eq_true rfl) dX2_tell_62 (fun r62 ν62 H locs hp62 hM hS => ?_)
    obtain ⟨rfl, e62⟩ := hp62
    replace e62 := e62.symm
    subst e62
    exact rI ⟨(tellF_4 h1).symm, rfl⟩ X hM hS hret hlk dX2_tell_65
end
section
/-! ===== the tray, in numbers ===== -/
/-- all cells but i are as they were -/
def off1 (i : Nat) (ν μ : Mm) : Prop := ∀ a, a ≠ i → μ a = ν a
/-- all cells but i and j -/
def off2 (i j : Nat) (ν μ : Mm) : Prop := ∀ a, a ≠ i → a ≠ j → μ a = ν a
theorem off1_rf (i : Nat) (ν : Mm) : off1 i ν ν := fun _ _ => rfl
theorem off1.up {i j v : Nat} {ν μ : Mm} (h : off1 i ν μ) : off1 i ν (up2 μ i j v) := fun a ha => by rw [up2_ne ha]; exact h a ha
theorem off2_rf (i j : Nat) (ν : Mm) : off2 i j ν ν := fun _ _ _ => rfl
theorem off2.up1 {i j b v : Nat} {ν μ : Mm} (h : off2 i j ν μ) : off2 i j ν (up2 μ i b v) := fun a ha hb => by rw [up2_ne ha]; exact h a ha hb
theorem off2.up2 {i j b v : Nat} {ν μ : Mm} (h : off2 i j ν μ) : off2 i j ν (up2 μ j b v) := fun a ha hb => by rw [up2_ne hb]; exact h a ha hb
theorem off1.two {i j : Nat} {ν μ : Mm} (h : off1 i ν μ) : off2 i j ν μ := fun a ha _ => h a ha
theorem off1.two' {i j : Nat} {ν μ : Mm} (h : off1 j ν μ) : off2 i j ν μ := fun a _ hb => h a hb
theorem off1.trans {i : Nat} {ν μ κ : Mm} (h : off1 i ν μ) (h2 : off1 i μ κ) : off1 i ν κ := fun a ha => (h2 a ha).trans (h a ha)
theorem off2.trans {i j : Nat} {ν μ κ : Mm} (h : off2 i j ν μ) (h2 : off2 i j μ κ) : off2 i j ν κ := fun a ha hb => (h2 a ha hb).trans (h a ha hb)
/-- the rests of the first i pieces that match, together -/
def ms (ct : Nat → Nat) (cs : Nat) (f : Nat → Nat) : Nat → Nat
  | 0 => 0
  | i + 1 => if bt cs (ct i) = 1 then ms ct cs f i + f i else ms ct cs f i
/-- the rests of the first i pieces -/
def sm (f : Nat → Nat) : Nat → Nat
  | 0 => 0
  | i + 1 => sm f i + f i
/-- a share a b c of each that matches is taken from the first n -/
def shF (sh : Nat → Nat) (n : Nat) (ct : Nat → Nat) (cs : Nat) (f : Nat → Nat) : Nat → Nat := fun j => if j < n ∧ bt cs (ct j) = 1 then f j - sh (f j) else f j
theorem shF_0 {sh ct : Nat → Nat} {cs : Nat} {f : Nat → Nat} : shF sh 0 ct cs f = f := by
  funext j; simp [shF]
theorem shF_at {sh ct : Nat → Nat} {i cs : Nat} {f : Nat → Nat} : shF sh i ct cs f i = f i := by simp [shF]
theorem shF_step {sh ct : Nat → Nat} {i cs : Nat} {f : Nat → Nat} (h : bt cs (ct i) = 1) : va_up (shF sh i ct cs f) i (f i - sh (f i)) = shF sh (i + 1) ct cs f := by
  funext j
  by_cases e : j = i
  · subst e; simp [va_up, shF, h]
  · simp only [va_up, e, if_false, shF]
    by_cases k : j < i
    · simp [k, show j < i + 1 by omega]
    · simp [k, show ¬ j < i + 1 by omega]
theorem shF_skip {sh ct : Nat → Nat} {i cs : Nat} {f : Nat → Nat} (h : ¬ bt cs (ct i) = 1) : shF sh i ct cs f = shF sh (i + 1) ct cs f := by
  funext j
  simp only [shF]
  by_cases e : j = i
  · subst e; simp [h]
  · by_cases k : j < i
    · simp [k, show j < i + 1 by omega]
    · simp [k, show ¬ j < i + 1 by omega]
/-- what the shares are together -/
def us (sh ct : Nat → Nat) (cs : Nat) (f : Nat → Nat) : Nat → Nat
  | 0 => 0
  | i + 1 => if bt cs (ct i) = 1 then us sh ct cs f i + sh (f i) else us sh ct cs f i
theorem us_le {ct : Nat → Nat} {cs A S : Nat} {f : Nat → Nat} (i : Nat) : us (fun x => x * A / S) ct cs f i * S ≤ ms ct cs f i * A := by
  induction i with
  | zero => simp [us, ms]
  | succ i ih =>
    simp only [us, ms]
    split
    · have h := Nat.div_mul_le_self (f i * A) S
      rw [Nat.add_mul, Nat.add_mul]
      omega
    · exact ih
theorem ms_mono {ct : Nat → Nat} {cs : Nat} {f : Nat → Nat} {i n : Nat} (h : i ≤ n) : ms ct cs f i ≤ ms ct cs f n := by
  induction n with
  | zero => have : i = 0 := by omega
            subst this; exact Nat.le_refl _
  | succ n ih =>
    by_cases e : i = n + 1
    · subst e; exact Nat.le_refl _
    · have := ih (by omega)
      simp only [ms]
      split <;> omega
theorem us_A {ct : Nat → Nat} {cs A n i : Nat} {f : Nat → Nat} (h : i ≤ n) (hS : 0 < ms ct cs f n) : us (fun x => x * A / ms ct cs f n) ct cs f i ≤ A := by
  have h1 := us_le (ct := ct) (cs := cs) (A := A) (S := ms ct cs f n) (f := f) i
  have h2 : ms ct cs f i * A ≤ ms ct cs f n * A := Nat.mul_le_mul_right _ (ms_mono h)
  have h3 : us (fun x => x * A / ms ct cs f n) ct cs f i * ms ct cs f n ≤ A * ms ct cs f n := by rw [Nat.mul_comm A]; omega
  exact Nat.le_of_mul_le_mul_right h3 hS
theorem us_A1 {ct : Nat → Nat} {cs A n i : Nat} {f : Nat → Nat} (h : i < n) (hS : 0 < ms ct cs f n) (hb : bt cs (ct i) = 1) : us (fun x => x * A / ms ct cs f n) ct cs f i + f i * A / ms ct cs f n ≤ A := by
  have h1 := us_A (ct := ct) (cs := cs) (A := A) (f := f) (i := i + 1) (n := n) h hS
  simp only [us, if_pos hb] at h1
  exact h1
/-- ones are taken from the first of those that match: what is left to take, the row -/
def onS (ct : Nat → Nat) (cs : Nat) : Nat → Nat × (Nat → Nat) → Nat × (Nat → Nat)
  | 0, x => x
  | i + 1, x => if 0 < (onS ct cs i x).1 ∧ 0 < (onS ct cs i x).2 i ∧ bt cs (ct i) = 1 then ((onS ct cs i x).1 - 1, va_up (onS ct cs i x).2 i ((onS ct cs i x).2 i - 1)) else onS ct cs i x
theorem onS_stop {ct : Nat → Nat} {cs : Nat} {x : Nat × (Nat → Nat)} {i : Nat} (h : (onS ct cs i x).1 = 0) (j : Nat) : onS ct cs (i + j) x = onS ct cs i x := by
  induction j with
  | zero => rfl
  | succ j ih =>
    show onS ct cs ((i + j) + 1) x = _
    simp only [onS, ih]
    rw [if_neg (by omega)]
/-- where a piece with the rest x comes among the first r places of the row g -/
def insP (f g : Nat → Nat) (x : Nat) : Nat → Nat
  | 0 => 0
  | r + 1 => if f (g r) < x then insP f g x r else r + 1
theorem insP_le (f g : Nat → Nat) (x r : Nat) : insP f g x r ≤ r := by
  induction r with
  | zero => exact Nat.le_refl _
  | succ r ih => simp only [insP]; split <;> omega
/-- the places of the first i pieces that match: how many, the row -/
def rkS (ct : Nat → Nat) (cs : Nat) (f : Nat → Nat) : Nat → Nat × (Nat → Nat)
  | 0 => (0, fun _ => 0)
  | i + 1 => if bt cs (ct i) = 1 then ((rkS ct cs f i).1 + 1, fun j => if j < insP f (rkS ct cs f i).2 (f i) (rkS ct cs f i).1 then (rkS ct cs f i).2 j else if j = insP f (rkS ct cs f i).2 (f i) (rkS ct cs f i).1 then i else (rkS ct cs f i).2 (j - 1)) else rkS ct cs f i
theorem rkS_le (ct : Nat → Nat) (cs : Nat) (f : Nat → Nat) (i : Nat) : (rkS ct cs f i).1 ≤ i := by
  induction i with
  | zero => exact Nat.le_refl _
  | succ i ih =>
    simp only [rkS]
    split
    · exact Nat.succ_le_succ ih
    · omega
theorem rkS_lt (ct : Nat → Nat) (cs : Nat) (f : Nat → Nat) (i : Nat) : ∀ j, j < (rkS ct cs f i).1 → (rkS ct cs f i).2 j < i := by
  induction i with
  | zero => intro j h; simp [rkS] at h
  | succ i ih =>
    intro j h
    have hp := insP_le f (rkS ct cs f i).2 (f i) (rkS ct cs f i).1
    simp only [rkS] at h ⊢
    split at h
    · next hb =>
      rw [if_pos hb]
      simp only at h ⊢
      split
      · have := ih j (by omega); omega
      · split
        · omega
        · have := ih (j - 1) (by omega); omega
    · next hb =>
      rw [if_neg hb]
      have := ih j h; omega
/-- each v-th of the first r places of g is free -/
def tbS (v : Nat) (g : Nat → Nat) : Nat → Nat × (Nat → Nat) → Nat × (Nat → Nat)
  | 0, x => x
  | r + 1, x => if (tbS v g r x).1 + 1 = v then (0, va_up (tbS v g r x).2 (g r) 0) else ((tbS v g r x).1 + 1, (tbS v g r x).2)
theorem tbS_1 (v : Nat) (g : Nat → Nat) (f : Nat → Nat) (r : Nat) : (tbS v g r (0, f)).1 ≤ r := by
  induction r with
  | zero => exact Nat.le_refl _
  | succ r ih =>
    simp only [tbS]
    split
    · exact Nat.zero_le _
    · exact Nat.succ_le_succ ih
def pcF (n : Nat) (ct : Nat → Nat) (cs v : Nat) (f : Nat → Nat) : Nat → Nat := shF (fun x => x * v / 100) n ct cs f
def taF (n : Nat) (ct : Nat → Nat) (cs v : Nat) (f : Nat → Nat) : Nat → Nat :=
  if ms ct cs f n = 0 then f else (onS ct cs n (min (ms ct cs f n) v - us (fun x => x * min (ms ct cs f n) v / ms ct cs f n) ct cs f n, shF (fun x => x * min (ms ct cs f n) v / ms ct cs f n) n ct cs f)).2
def tbF (n : Nat) (ct : Nat → Nat) (cs v : Nat) (f : Nat → Nat) : Nat → Nat := (tbS v (rkS ct cs f n).2 (rkS ct cs f n).1 (0, f)).2
/-- a coupon of this kind goes over the row f of n pieces -/
def apF (n : Nat) (ct : Nat → Nat) (kd cs v : Nat) (f : Nat → Nat) : Nat → Nat :=
  if kd = 0 then pcF n ct cs v f else if kd = 1 then taF n ct cs v f else if kd = 2 then tbF n ct cs v f else f
theorem ms_le {ct : Nat → Nat} {cs : Nat} {f : Nat → Nat} {B n : Nat} (h : ∀ i, i < n → f i ≤ B) : ms ct cs f n ≤ n * B := by
  induction n with
  | zero => simp [ms]
  | succ n ih =>
    have h1 := ih (fun i hi => h i (by omega))
    have h2 := h n (by omega)
    rw [Nat.succ_mul]
    simp only [ms]
    split <;> omega
theorem sm_le {f : Nat → Nat} {B n : Nat} (h : ∀ i, i < n → f i ≤ B) : sm f n ≤ n * B := by
  induction n with
  | zero => simp [sm]
  | succ n ih =>
    have h1 := ih (fun i hi => h i (by omega))
    have h2 := h n (by omega)
    rw [Nat.succ_mul]
    simp only [sm]
    omega
theorem pct_le {x v : Nat} (h : v ≤ 100) : x * v / 100 ≤ x := Nat.div_le_of_le_mul (by rw [Nat.mul_comm 100]; exact Nat.mul_le_mul_left x h)
theorem shr_le {x A S : Nat} (h : A ≤ S) : x * A / S ≤ x := Nat.div_le_of_le_mul (by rw [Nat.mul_comm S]; exact Nat.mul_le_mul_left x h)
theorem onS_le {ct : Nat → Nat} {cs : Nat} {x : Nat × (Nat → Nat)} (i : Nat) : (onS ct cs i x).1 ≤ x.1 ∧ ∀ j, (onS ct cs i x).2 j ≤ x.2 j := by
  induction i with
  | zero => exact ⟨Nat.le_refl _, fun _ => Nat.le_refl _⟩
  | succ i ih =>
    simp only [onS]
    split
    · refine ⟨Nat.le_trans (Nat.sub_le _ _) ih.1, fun j => ?_⟩
      show va_up (onS ct cs i x).2 i ((onS ct cs i x).2 i - 1) j ≤ x.2 j
      by_cases e : j = i
      · subst e
        rw [va_up_self]
        exact Nat.le_trans (Nat.sub_le _ _) (ih.2 j)
      · rw [va_up_ne _ _ e]; exact ih.2 j
    · exact ih
theorem onS_y {ct : Nat → Nat} {cs i : Nat} {x : Nat × (Nat → Nat)} (h : 0 < (onS ct cs i x).1 ∧ 0 < (onS ct cs i x).2 i ∧ bt cs (ct i) = 1) : onS ct cs (i + 1) x = ((onS ct cs i x).1 - 1, va_up (onS ct cs i x).2 i ((onS ct cs i x).2 i - 1)) := if_pos h
theorem onS_n {ct : Nat → Nat} {cs i : Nat} {x : Nat × (Nat → Nat)} (h : ¬ (0 < (onS ct cs i x).1 ∧ 0 < (onS ct cs i x).2 i ∧ bt cs (ct i) = 1)) : onS ct cs (i + 1) x = onS ct cs i x := if_neg h
theorem tbS_y {v : Nat} {g : Nat → Nat} {r : Nat} {x : Nat × (Nat → Nat)} (h : (tbS v g r x).1 + 1 = v) : tbS v g (r + 1) x = (0, va_up (tbS v g r x).2 (g r) 0) := if_pos h
theorem tbS_n {v : Nat} {g : Nat → Nat} {r : Nat} {x : Nat × (Nat → Nat)} (h : ¬ (tbS v g r x).1 + 1 = v) : tbS v g (r + 1) x = ((tbS v g r x).1 + 1, (tbS v g r x).2) := if_neg h
theorem tbS_le {v : Nat} {g f : Nat → Nat} (r : Nat) : ∀ j, (tbS v g r (0, f)).2 j ≤ f j := by
  induction r with
  | zero => exact fun _ => Nat.le_refl _
  | succ r ih =>
    intro j
    simp only [tbS]
    split
    · by_cases e : j = g r
      · subst e; simp only; rw [va_up_self]; exact Nat.zero_le _
      · simp only; rw [va_up_ne _ _ e]; exact ih j
    · exact ih j
/-- the article of the j-th piece among those of the first a articles -/
def pcA (ν : Mm) (L : Nat) : Nat → Nat → Nat
  | 0 => fun _ => 0
  | a + 1 => fun j => if j < cnt ν L a then pcA ν L a j else a
theorem pcA_lt (ν : Mm) (L a : Nat) (h : 0 < a) (j : Nat) : pcA ν L a j < a := by
  induction a with
  | zero => omega
  | succ a ih =>
    simp only [pcA]
    split
    · by_cases e : a = 0
      · subst e; simp [cnt] at *
      · have := ih (by omega); omega
    · omega
theorem cnt_mono {ν : Mm} {L a b : Nat} (h : a ≤ b) : cnt ν L a ≤ cnt ν L b := by
  induction b with
  | zero => have : a = 0 := by omega
            subst this; exact Nat.le_refl _
  | succ b ih =>
    by_cases e : a = b + 1
    · subst e; exact Nat.le_refl _
    · have := ih (by omega)
      simp only [cnt]; omega
theorem cnt_le {ν : Mm} {L B a : Nat} (h : ∀ i, i < a → ν (L + 3) i ≤ B) : cnt ν L a ≤ a * B := by
  induction a with
  | zero => simp [cnt]
  | succ a ih =>
    have h1 := ih (fun i hi => h i (by omega))
    have h2 := h a (by omega)
    rw [Nat.succ_mul]
    simp only [cnt]; omega
end
section
/-! ===== Tray: percent, amount, sums ===== -/
set_option maxHeartbeats 4000000 in
set_option maxRecDepth 100000 in
theorem c_X4_matchedRests {l : Launch} {G : dG} {ν : Mm} {q r : Nat} (hq : q < 8) (hr : r < 9) (hcs : ν (22 + q) 2 < 2 ^ 31) (hn : ν 7 4 ≤ 60) (hct : ∀ i, i < ν 7 4 → ν 9 i < 32) : cI l yX4_matchedRests cX4_matchedRests 5 (some .int) 1 G [.ref (ra G 7), .ref (ra G (22 + q)), .ref (ra G (11 + r))] ν (fun x ν' => x = ms (ν 9) (ν (22 + q) 2) (ν (11 + r)) (ν 7 4) ∧ ν' = ν) := by
  refine cI_of (by decide +kernel) (Nat.le_of_ble_eq_true rfl) ?_
  intro p e s m args below meth c ls X hM hret hlk hl
  have hS : dS G s.heap s.heap [] := va_S.rf
  refine tn_ic (v := 0) X dX4_matchedRests_0 (by decide) ?_
  refine lv_istore_n X.1 X.2.1 dX4_matchedRests_1 rfl hl (by decide) rfl (fun ls hl => ?_)
  replace hl : lv_has ls 5 [(3, _), (0, _), (1, _), (2, _)] := hl
  refine tn_ic (v := 0) X dX4_matchedRests_2 (by decide) ?_
  refine lv_istore X.1 X.2.1 dX4_matchedRests_3 hl (by decide) rfl (fun ls hl => ?_)
  replace hl : lv_has ls 5 [(4, _), (3, _), (0, _), (1, _), (2, _)] := hl
  have Lp : ∀ (k : Nat) (i : Nat), i + k = ν 7 4 → ∀ (ls : Array Slot) (H : Heap) (locs : List Loc), dM G ν H → dS G s.heap H locs → lv_has ls 5 [(0, .ref (ra G 7)), (1, .ref (ra G (22 + q))), (2, .ref (ra G (11 + r))), (3, .int (nI (ms (ν 9) (ν (22 + q) 2) (ν (11 + r)) i))), (4, .int (nI i))] → W p l e (rmD 1) s m args below meth c H locs 0 0 (MQ below (dQi G s.heap.size (fun x ν' => x = ms (ν 9) (ν (22 + q) 2) (ν (11 + r)) (ν 7 4) ∧ ν' = ν)) args s 0 0 (dA G s.heap.size)) (F0 m 5 ls []) := by
    intro k
    induction k with
    | zero =>
      intro i hi ls H locs hM hS hl
      refine lv_iload X.1 X.2.1 dX4_matchedRests_5 (lv_at hl 4 rfl) ?_
      refine lv_aload_n X.1 X.2.1 dX4_matchedRests_7 rfl (lv_at hl 0 rfl) ?_
      refine m_get (ci := 4) (C := RX4) (T := TX4) (N := 5) X hM inA4 (by decide) (dE_tray G _) rfl 4 (by decide) kl_X4_26 rfl rfl dX4_matchedRests_8 ?_
      refine tn_ge (tgt := 41) X dX4_matchedRests_11 (by decide) (by omega) (by omega) (fun h11 => ?_) (fun h11 => ?_)
      · refine lv_iload_n X.1 X.2.1 dX4_matchedRests_41 rfl (lv_at hl 3 rfl) ?_
        exact rI ⟨by rw [show i = ν 7 4 by omega], rfl⟩ X hM hS hret hlk dX4_matchedRests_42
      · exfalso; omega
    | succ k ih =>
      intro i hi ls H locs hM hS hl
      refine lv_iload X.1 X.2.1 dX4_matchedRests_5 (lv_at hl 4 rfl) ?_
      refine lv_aload_n X.1 X.2.1 dX4_matchedRests_7 rfl (lv_at hl 0 rfl) ?_
      refine m_get (ci := 4) (C := RX4) (T := TX4) (N := 5) X hM inA4 (by decide) (dE_tray G _) rfl 4 (by decide) kl_X4_26 rfl rfl dX4_matchedRests_8 ?_
      refine tn_ge (tgt := 41) X dX4_matchedRests_11 (by decide) (by omega) (by omega) (fun h11 => ?_) (fun h11 => ?_)
      · exfalso; omega
      · refine lv_aload_n X.1 X.2.1 dX4_matchedRests_14 rfl (lv_at hl 1 rfl) ?_
        refine lv_aload_n X.1 X.2.1 dX4_matchedRests_15 rfl (lv_at hl 0 rfl) ?_
        refine m_get (ci := 4) (C := RX4) (T := TX4) (N := 5) X hM inA4 (by decide) (dE_tray G _) rfl 1 (by decide) kl_X4_15 rfl rfl dX4_matchedRests_16 ?_
        refine lv_iload X.1 X.2.1 dX4_matchedRests_19 (lv_at hl 4 rfl) ?_
        refine m_iald X hM (by decide) (dE_tC G _) (by omega) (by decide) dX4_matchedRests_21 ?_
        refine kNI (As := [_]) X hM hS hl.1 (c_X0_isMatchedBy hq hcs (hct i (by omega))) (by omega) (dE_cou hq G _) rfl rfl kl_X4_60 mf_X0_isMatchedBy ⟨Nat.le_of_ble_eq_true rfl, Nat.le_of_ble_eq_true rfl⟩ ⟨Nat.zero_le _, Nat.zero_le _⟩ rfl (Nat.le_of_ble_eq_true rfl) dX4_matchedRests_22 (fun r22 ν22 H locs hp22 hM hS => ?_)
        obtain ⟨rfl, e22⟩ := hp22
        replace e22 := e22.symm
        subst e22
        refine tn_eq0 (tgt := 35) X dX4_matchedRests_25 (by decide) (by have := bt_le (ν (22 + q) 2) (ν 9 i); omega) (fun h25 => ?_) (fun h25 => ?_)
        · refine tn_inc (k := 4) (w := 1) X dX4_matchedRests_35 hl rfl (by decide) (by decide) rfl (fun ls hl => ?_)
          replace hl : lv_has ls 5 [(4, _), (0, _), (1, _), (2, _), (3, _)] := hl
          refine lv_goto (tgt := 5) X.1 X.2.1 dX4_matchedRests_38 (by decide) ?_
          have e : ms (ν 9) (ν (22 + q) 2) (ν (11 + r)) (i + 1) = _ := if_neg (by omega)
          exact ih (i + 1) (by omega) ls H locs hM hS (by rw [e]; exact (lv_sub hl [1, 2, 3, 4, 0] rfl))
        · refine lv_iload_n X.1 X.2.1 dX4_matchedRests_28 rfl (lv_at hl 3 rfl) ?_
          refine lv_aload_n X.1 X.2.1 dX4_matchedRests_29 rfl (lv_at hl 2 rfl) ?_
          refine lv_iload X.1 X.2.1 dX4_matchedRests_30 (lv_at hl 4 rfl) ?_
          refine m_iald X hM (by omega) (dE_row hr G _) (by omega) (by decide) dX4_matchedRests_32 ?_
          refine tn_add X dX4_matchedRests_33 ?_
          refine lv_istore_n X.1 X.2.1 dX4_matchedRests_34 rfl hl (by decide) rfl (fun ls hl => ?_)
          replace hl : lv_has ls 5 [(3, _), (0, _), (1, _), (2, _), (4, _)] := hl
          refine tn_inc (k := 4) (w := 1) X dX4_matchedRests_35 hl rfl (by decide) (by decide) rfl (fun ls hl => ?_)
          replace hl : lv_has ls 5 [(4, _), (3, _), (0, _), (1, _), (2, _)] := hl
          refine lv_goto (tgt := 5) X.1 X.2.1 dX4_matchedRests_38 (by decide) ?_
          have e : ms (ν 9) (ν (22 + q) 2) (ν (11 + r)) (i + 1) = _ := if_pos (by have := bt_le (ν (22 + q) 2) (ν 9 i); omega)
          exact ih (i + 1) (by omega) ls H locs hM hS (by rw [e]; exact (lv_sub hl [2, 3, 4, 1, 0] rfl))
  exact Lp (ν 7 4) 0 (by omega) ls _ _ hM hS (lv_sub hl [2, 3, 4, 1, 0] rfl)

set_option maxHeartbeats 4000000 in
set_option maxRecDepth 100000 in
theorem c_X4_restsInRow {l : Launch} {G : dG} {ν : Mm} {r : Nat} (hr : r < 9) (hn : ν 7 4 ≤ 60) : cI l yX4_restsInRow cX4_restsInRow 5 (some .int) 0 G [.ref (ra G 7), .int (nI r)] ν (fun x ν' => x = sm (ν (11 + r)) (ν 7 4) ∧ ν' = ν) := by
  refine cI_of (by decide +kernel) (Nat.le_of_ble_eq_true rfl) ?_
  intro p e s m args below meth c ls X hM hret hlk hl
  have hS : dS G s.heap s.heap [] := va_S.rf
  refine lv_aload_n X.1 X.2.1 dX4_restsInRow_0 rfl (lv_at hl 0 rfl) ?_
  refine m_get (ci := 4) (C := RX4) (T := TX4) (N := 5) X hM inA4 (by decide) (dE_tray G _) rfl 2 (by decide) kl_X4_20 rfl rfl dX4_restsInRow_1 ?_
  refine lv_iload_n X.1 X.2.1 dX4_restsInRow_4 rfl (lv_at hl 1 rfl) ?_
  refine m_aald 3 rfl X hM (by decide) (dE_tR G _) rfl hr (by decide) dX4_restsInRow_5 ?_
  refine lv_astore_n X.1 X.2.1 dX4_restsInRow_6 rfl hl (by decide) rfl (fun ls hl => ?_)
  replace hl : lv_has ls 5 [(2, _), (0, _), (1, _)] := hl
  refine tn_ic (v := 0) X dX4_restsInRow_7 (by decide) ?_
  refine lv_istore_n X.1 X.2.1 dX4_restsInRow_8 rfl hl (by decide) rfl (fun ls hl => ?_)
  replace hl : lv_has ls 5 [(3, _), (2, _), (0, _), (1, _)] := hl
  refine tn_ic (v := 0) X dX4_restsInRow_9 (by decide) ?_
  refine lv_istore X.1 X.2.1 dX4_restsInRow_10 hl (by decide) rfl (fun ls hl => ?_)
  replace hl : lv_has ls 5 [(4, _), (3, _), (2, _), (0, _), (1, _)] := hl
  have Lp : ∀ (k : Nat) (i : Nat), i + k = ν 7 4 → ∀ (ls : Array Slot) (H : Heap) (locs : List Loc), dM G ν H → dS G s.heap H locs → lv_has ls 5 [(0, .ref (ra G 7)), (2, .ref (ra G (11 + r))), (3, .int (nI (sm (ν (11 + r)) i))), (4, .int (nI i))] → W p l e (rmD 0) s m args below meth c H locs 0 0 (MQ below (dQi G s.heap.size (fun x ν' => x = sm (ν (11 + r)) (ν 7 4) ∧ ν' = ν)) args s 0 0 (dA G s.heap.size)) (F0 m 12 ls []) := by
    intro k
    induction k with
    | zero =>
      intro i hi ls H locs hM hS hl
      refine lv_iload X.1 X.2.1 dX4_restsInRow_12 (lv_at hl 3 rfl) ?_
      refine lv_aload_n X.1 X.2.1 dX4_restsInRow_14 rfl (lv_at hl 0 rfl) ?_
      refine m_get (ci := 4) (C := RX4) (T := TX4) (N := 5) X hM inA4 (by decide) (dE_tray G _) rfl 4 (by decide) kl_X4_26 rfl rfl dX4_restsInRow_15 ?_
      refine tn_ge (tgt := 34) X dX4_restsInRow_18 (by decide) (by omega) (by omega) (fun h18 => ?_) (fun h18 => ?_)
      · refine lv_iload_n X.1 X.2.1 dX4_restsInRow_34 rfl (lv_at hl 2 rfl) ?_
        exact rI ⟨by rw [show i = ν 7 4 by omega], rfl⟩ X hM hS hret hlk dX4_restsInRow_35
      · exfalso; omega
    | succ k ih =>
      intro i hi ls H locs hM hS hl
      refine lv_iload X.1 X.2.1 dX4_restsInRow_12 (lv_at hl 3 rfl) ?_
      refine lv_aload_n X.1 X.2.1 dX4_restsInRow_14 rfl (lv_at hl 0 rfl) ?_
      refine m_get (ci := 4) (C := RX4) (T := TX4) (N := 5) X hM inA4 (by decide) (dE_tray G _) rfl 4 (by decide) kl_X4_26 rfl rfl dX4_restsInRow_15 ?_
      refine tn_ge (tgt := 34) X dX4_restsInRow_18 (by decide) (by omega) (by omega) (fun h18 => ?_) (fun h18 => ?_)
      · exfalso; omega
      · refine lv_iload_n X.1 X.2.1 dX4_restsInRow_21 rfl (lv_at hl 2 rfl) ?_
        refine lv_aload_n X.1 X.2.1 dX4_restsInRow_22 rfl (lv_at hl 1 rfl) ?_
        refine lv_iload X.1 X.2.1 dX4_restsInRow_23 (lv_at hl 3 rfl) ?_
        refine m_iald X hM (by omega) (dE_row hr G _) (by omega) (by decide) dX4_restsInRow_25 ?_
        refine tn_add X dX4_restsInRow_26 ?_
        refine lv_istore_n X.1 X.2.1 dX4_restsInRow_27 rfl hl (by decide) rfl (fun ls hl => ?_)
        replace hl : lv_has ls 5 [(3, _), (0, _), (2, _), (4, _)] := hl
        refine tn_inc (k := 3) (w := 1) X dX4_restsInRow_28 hl rfl (by decide) (by decide) rfl (fun ls hl => ?_)
        replace hl : lv_has ls 5 [(4, _), (3, _), (0, _), (2, _)] := hl
        refine lv_goto (tgt := 12) X.1 X.2.1 dX4_restsInRow_31 (by decide) ?_
        exact ih (i + 1) (by omega) ls H locs hM hS (lv_sub hl [2, 3, 1, 0] rfl)
  exact Lp (ν 7 4) 0 (by omega) ls _ _ hM hS (lv_sub hl [3, 2, 1, 0] rfl)

set_option maxHeartbeats 4000000 in
set_option maxRecDepth 100000 in
theorem c_X4_takePercent {l : Launch} {G : dG} {ν : Mm} {q r : Nat} (hq : q < 8) (hr : r < 9) (hcs : ν (22 + q) 2 < 2 ^ 31) (hn : ν 7 4 ≤ 60) (hct : ∀ i, i < ν 7 4 → ν 9 i < 32) (hv : ν (22 + q) 1 ≤ 100) (hf : ∀ i, i < ν 7 4 → ν (11 + r) i ≤ 10000) : cV l yX4_takePercent cX4_takePercent 4 1 G [.ref (ra G 7), .ref (ra G (22 + q)), .ref (ra G (11 + r))] ν (fun ν' => off1 (11 + r) ν ν' ∧ ν' (11 + r) = pcF (ν 7 4) (ν 9) (ν (22 + q) 2) (ν (22 + q) 1) (ν (11 + r))) := by
  refine cV_of (by decide +kernel) (Nat.le_of_ble_eq_true rfl) ?_
  intro p e s m args below meth c ls X hM hret hlk hl
  have hS : dS G s.heap s.heap [] := va_S.rf
  refine tn_ic (v := 0) X dX4_takePercent_0 (by decide) ?_
  refine lv_istore_n X.1 X.2.1 dX4_takePercent_1 rfl hl (by decide) rfl (fun ls hl => ?_)
  replace hl : lv_has ls 4 [(3, _), (0, _), (1, _), (2, _)] := hl
  have Lp : ∀ (k : Nat) (i : Nat) (μ : Mm), i + k = ν 7 4 → off1 (11 + r) ν μ → μ (11 + r) = shF (fun x => x * ν (22 + q) 1 / 100) i (ν 9) (ν (22 + q) 2) (ν (11 + r)) → ∀ (ls : Array Slot) (H : Heap) (locs : List Loc), dM G μ H → dS G s.heap H locs → lv_has ls 4 [(0, .ref (ra G 7)), (1, .ref (ra G (22 + q))), (2, .ref (ra G (11 + r))), (3, .int (nI i))] → W p l e (rmD 1) s m args below meth c H locs 0 0 (MQ below (dQv G s.heap.size (fun ν' => off1 (11 + r) ν ν' ∧ ν' (11 + r) = pcF (ν 7 4) (ν 9) (ν (22 + q) 2) (ν (22 + q) 1) (ν (11 + r)))) args s 0 0 (dA G s.heap.size)) (F0 m 2 ls []) := by
    intro k
    induction k with
    | zero =>
      intro i μ hi hof hro ls H locs hM hS hl
      have e7 : μ 7 = ν 7 := hof 7 (by omega)
      have e9 : μ 9 = ν 9 := hof 9 (by omega)
      have eqq : μ (22 + q) = ν (22 + q) := hof (22 + q) (by omega)
      have e74 : μ 7 4 = ν 7 4 := by rw [e7]
      refine lv_iload_n X.1 X.2.1 dX4_takePercent_2 rfl (lv_at hl 3 rfl) ?_
      refine lv_aload_n X.1 X.2.1 dX4_takePercent_3 rfl (lv_at hl 0 rfl) ?_
      refine m_get (ci := 4) (C := RX4) (T := TX4) (N := 5) X hM inA4 (by decide) (dE_tray G _) rfl 4 (by decide) kl_X4_26 rfl rfl dX4_takePercent_4 ?_
      refine tn_ge (tgt := 46) X dX4_takePercent_7 (by decide) (by omega) (by omega) (fun h7 => ?_) (fun h7 => ?_)
      · exact rV ⟨hof, by rw [hro, show i = ν 7 4 by omega]; rfl⟩ X hM hS hret hlk dX4_takePercent_46
      · exfalso; omega
    | succ k ih =>
      intro i μ hi hof hro ls H locs hM hS hl
      have e7 : μ 7 = ν 7 := hof 7 (by omega)
      have e9 : μ 9 = ν 9 := hof 9 (by omega)
      have eqq : μ (22 + q) = ν (22 + q) := hof (22 + q) (by omega)
      have e74 : μ 7 4 = ν 7 4 := by rw [e7]
      refine lv_iload_n X.1 X.2.1 dX4_takePercent_2 rfl (lv_at hl 3 rfl) ?_
      refine lv_aload_n X.1 X.2.1 dX4_takePercent_3 rfl (lv_at hl 0 rfl) ?_
      refine m_get (ci := 4) (C := RX4) (T := TX4) (N := 5) X hM inA4 (by decide) (dE_tray G _) rfl 4 (by decide) kl_X4_26 rfl rfl dX4_takePercent_4 ?_
      refine tn_ge (tgt := 46) X dX4_takePercent_7 (by decide) (by omega) (by omega) (fun h7 => ?_) (fun h7 => ?_)
      · exfalso; omega
      · refine lv_aload_n X.1 X.2.1 dX4_takePercent_10 rfl (lv_at hl 1 rfl) ?_
        refine lv_aload_n X.1 X.2.1 dX4_takePercent_11 rfl (lv_at hl 0 rfl) ?_
        refine m_get (ci := 4) (C := RX4) (T := TX4) (N := 5) X hM inA4 (by decide) (dE_tray G _) rfl 1 (by decide) kl_X4_15 rfl rfl dX4_takePercent_12 ?_
        refine lv_iload_n X.1 X.2.1 dX4_takePercent_15 rfl (lv_at hl 3 rfl) ?_
        refine m_iald X hM (by decide) (dE_tC G _) (by omega) (by decide) dX4_takePercent_16 ?_
        refine kNI (As := [_]) X hM hS hl.1 (c_X0_isMatchedBy hq (by rw [eqq]; exact hcs) (by rw [e9]; exact hct i (by omega))) (by omega) (dE_cou hq G _) rfl rfl kl_X4_60 mf_X0_isMatchedBy ⟨Nat.le_of_ble_eq_true rfl, Nat.le_of_ble_eq_true rfl⟩ ⟨Nat.zero_le _, Nat.zero_le _⟩ rfl (Nat.le_of_ble_eq_true rfl) dX4_takePercent_17 (fun r17 ν17 H locs hp17 hM hS => ?_)
        obtain ⟨rfl, e17⟩ := hp17
        replace e17 := e17.symm
        subst e17
        refine tn_eq0 (tgt := 40) X dX4_takePercent_20 (by decide) (by have := bt_le (μ (22 + q) 2) (μ 9 i); omega) (fun h20 => ?_) (fun h20 => ?_)
        · refine tn_inc (k := 3) (w := 1) X dX4_takePercent_40 hl rfl (by decide) (by decide) rfl (fun ls hl => ?_)
          replace hl : lv_has ls 4 [(3, _), (0, _), (1, _), (2, _)] := hl
          refine lv_goto (tgt := 2) X.1 X.2.1 dX4_takePercent_43 (by decide) ?_
          exact ih (i + 1) μ (by omega) hof (by rw [hro, shF_skip (by rw [← eqq, ← e9]; omega)]) ls H locs hM hS (lv_sub hl [1, 2, 3, 0] rfl)
        · have hfi : μ (11 + r) i = ν (11 + r) i := by rw [hro]; exact shF_at
          have hx : μ (11 + r) i * μ (22 + q) 1 ≤ 10000 * 100 := Nat.mul_le_mul (by rw [hfi]; exact hf i (by omega)) (by rw [eqq]; exact hv)
          have hy : μ (11 + r) i * μ (22 + q) 1 / 100 ≤ μ (11 + r) i := pct_le (by rw [eqq]; exact hv)
          refine lv_aload_n X.1 X.2.1 dX4_takePercent_23 rfl (lv_at hl 2 rfl) ?_
          refine lv_iload_n X.1 X.2.1 dX4_takePercent_24 rfl (lv_at hl 3 rfl) ?_
          refine lv_dup2_11 X.1 X.2.1 dX4_takePercent_25 rfl rfl ?_
          refine m_iald X hM (by omega) (dE_row hr G _) (by omega) (by decide) dX4_takePercent_26 ?_
          refine lv_aload_n X.1 X.2.1 dX4_takePercent_27 rfl (lv_at hl 2 rfl) ?_
          refine lv_iload_n X.1 X.2.1 dX4_takePercent_28 rfl (lv_at hl 3 rfl) ?_
          refine m_iald X hM (by omega) (dE_row hr G _) (by omega) (by decide) dX4_takePercent_29 ?_
          refine lv_aload_n X.1 X.2.1 dX4_takePercent_30 rfl (lv_at hl 1 rfl) ?_
          refine m_getN (ci := 0) (C := RX0) (T := TX0) (N := 6) X hM inA0 (by omega) (dE_cou hq G _) rfl 1 (by decide) kl_X4_64 rfl rfl dX4_takePercent_31 ?_
          refine tn_mul X dX4_takePercent_34 ?_
          refine tn_bi (v := 100) X dX4_takePercent_35 (by decide) ?_
          refine tn_div X dX4_takePercent_37 (by omega) (by decide) (by decide) ?_
          refine tn_sub X dX4_takePercent_38 hy ?_
          refine m_iast X hM hS (by omega) (fun _ => (dE_row hr G _)) (by omega) (by decide) dX4_takePercent_39 (fun H locs hM hS => ?_)
          refine tn_inc (k := 3) (w := 1) X dX4_takePercent_40 hl rfl (by decide) (by decide) rfl (fun ls hl => ?_)
          replace hl : lv_has ls 4 [(3, _), (0, _), (1, _), (2, _)] := hl
          refine lv_goto (tgt := 2) X.1 X.2.1 dX4_takePercent_43 (by decide) ?_
          have hb1 : bt (ν (22 + q) 2) (ν 9 i) = 1 := by have := bt_le (μ (22 + q) 2) (μ 9 i); rw [← eqq, ← e9]; omega
          exact ih (i + 1) _ (by omega) hof.up (by rw [up2_row, hfi, eqq, hro]; exact shF_step (sh := (fun x => x * ν (22 + q) 1 / 100)) hb1) ls H locs hM hS (lv_sub hl [1, 2, 3, 0] rfl)
  exact Lp (ν 7 4) 0 ν (by omega) (off1_rf _ _) shF_0.symm ls _ _ hM hS (lv_sub hl [1, 2, 3, 0] rfl)

set_option maxHeartbeats 4000000 in
set_option maxRecDepth 100000 in
theorem c_X4_takeOnes {l : Launch} {G : dG} {ν : Mm} {q r x : Nat} (hq : q < 8) (hr : r < 9) (hcs : ν (22 + q) 2 < 2 ^ 31) (hn : ν 7 4 ≤ 60) (hct : ∀ i, i < ν 7 4 → ν 9 i < 32) (hx : x < 2 ^ 31) (hf : ∀ i, i < ν 7 4 → ν (11 + r) i ≤ 10000) : cV l yX4_takeOnes cX4_takeOnes 6 1 G [.ref (ra G 7), .ref (ra G (22 + q)), .ref (ra G (11 + r)), .int (nI x)] ν (fun ν' => off1 (11 + r) ν ν' ∧ ν' (11 + r) = (onS (ν 9) (ν (22 + q) 2) (ν 7 4) (x, ν (11 + r))).2) := by
  refine cV_of (by decide +kernel) (Nat.le_of_ble_eq_true rfl) ?_
  intro p e s m args below meth c ls X hM hret hlk hl
  have hS : dS G s.heap s.heap [] := va_S.rf
  refine lv_iload_n X.1 X.2.1 dX4_takeOnes_0 rfl (lv_at hl 3 rfl) ?_
  refine lv_istore X.1 X.2.1 dX4_takeOnes_1 hl (by decide) rfl (fun ls hl => ?_)
  replace hl : lv_has ls 6 [(4, _), (0, _), (1, _), (2, _), (3, _)] := hl
  refine tn_ic (v := 0) X dX4_takeOnes_3 (by decide) ?_
  refine lv_istore X.1 X.2.1 dX4_takeOnes_4 hl (by decide) rfl (fun ls hl => ?_)
  replace hl : lv_has ls 6 [(5, _), (4, _), (0, _), (1, _), (2, _), (3, _)] := hl
  have Lp : ∀ (k : Nat) (i : Nat) (μ : Mm), i + k = ν 7 4 → off1 (11 + r) ν μ → μ (11 + r) = (onS (ν 9) (ν (22 + q) 2) i (x, ν (11 + r))).2 → ∀ (ls : Array Slot) (H : Heap) (locs : List Loc), dM G μ H → dS G s.heap H locs → lv_has ls 6 [(0, .ref (ra G 7)), (1, .ref (ra G (22 + q))), (2, .ref (ra G (11 + r))), (4, .int (nI (onS (ν 9) (ν (22 + q) 2) i (x, ν (11 + r))).1)), (5, .int (nI i))] → W p l e (rmD 1) s m args below meth c H locs 0 0 (MQ below (dQv G s.heap.size (fun ν' => off1 (11 + r) ν ν' ∧ ν' (11 + r) = (onS (ν 9) (ν (22 + q) 2) (ν 7 4) (x, ν (11 + r))).2)) args s 0 0 (dA G s.heap.size)) (F0 m 6 ls []) := by
    intro k
    induction k with
    | zero =>
      intro i μ hi hof hro ls H locs hM hS hl
      have e7 : μ 7 = ν 7 := hof 7 (by omega)
      have e9 : μ 9 = ν 9 := hof 9 (by omega)
      have eqq : μ (22 + q) = ν (22 + q) := hof (22 + q) (by omega)
      have e74 : μ 7 4 = ν 7 4 := by rw [e7]
      have hole := onS_le (ct := ν 9) (cs := ν (22 + q) 2) (x := (x, ν (11 + r))) i
      have hl1 : (onS (ν 9) (ν (22 + q) 2) i (x, ν (11 + r))).1 ≤ x := hole.1
      refine lv_iload X.1 X.2.1 dX4_takeOnes_6 (lv_at hl 4 rfl) ?_
      refine lv_aload_n X.1 X.2.1 dX4_takeOnes_8 rfl (lv_at hl 0 rfl) ?_
      refine m_get (ci := 4) (C := RX4) (T := TX4) (N := 5) X hM inA4 (by decide) (dE_tray G _) rfl 4 (by decide) kl_X4_26 rfl rfl dX4_takeOnes_9 ?_
      refine tn_ge (tgt := 58) X dX4_takeOnes_12 (by decide) (by omega) (by omega) (fun h12 => ?_) (fun h12 => ?_)
      · exact rV ⟨hof, by rw [hro, show i = ν 7 4 by omega]⟩ X hM hS hret hlk dX4_takeOnes_58
      · exfalso; omega
    | succ k ih =>
      intro i μ hi hof hro ls H locs hM hS hl
      have e7 : μ 7 = ν 7 := hof 7 (by omega)
      have e9 : μ 9 = ν 9 := hof 9 (by omega)
      have eqq : μ (22 + q) = ν (22 + q) := hof (22 + q) (by omega)
      have e74 : μ 7 4 = ν 7 4 := by rw [e7]
      have hole := onS_le (ct := ν 9) (cs := ν (22 + q) 2) (x := (x, ν (11 + r))) i
      have hl1 : (onS (ν 9) (ν (22 + q) 2) i (x, ν (11 + r))).1 ≤ x := hole.1
      refine lv_iload X.1 X.2.1 dX4_takeOnes_6 (lv_at hl 4 rfl) ?_
      refine lv_aload_n X.1 X.2.1 dX4_takeOnes_8 rfl (lv_at hl 0 rfl) ?_
      refine m_get (ci := 4) (C := RX4) (T := TX4) (N := 5) X hM inA4 (by decide) (dE_tray G _) rfl 4 (by decide) kl_X4_26 rfl rfl dX4_takeOnes_9 ?_
      refine tn_ge (tgt := 58) X dX4_takeOnes_12 (by decide) (by omega) (by omega) (fun h12 => ?_) (fun h12 => ?_)
      · exfalso; omega
      · refine lv_iload X.1 X.2.1 dX4_takeOnes_15 (lv_at hl 3 rfl) ?_
        refine tn_le0 (tgt := 58) X dX4_takeOnes_17 (by decide) (by omega) (fun h17 => ?_) (fun h17 => ?_)
        · exact rV ⟨hof, by rw [hro, show ν 7 4 = i + (ν 7 4 - i) by omega, onS_stop h17]⟩ X hM hS hret hlk dX4_takeOnes_58
        · have hrb : μ (11 + r) i < 2 ^ 31 := by rw [hro]; have h1 := hole.2 i; have h2 := hf i (by omega); exact Nat.lt_of_le_of_lt h1 (by show ν (11 + r) i < 2 ^ 31; omega)
          refine lv_aload_n X.1 X.2.1 dX4_takeOnes_20 rfl (lv_at hl 2 rfl) ?_
          refine lv_iload X.1 X.2.1 dX4_takeOnes_21 (lv_at hl 4 rfl) ?_
          refine m_iald X hM (by omega) (dE_row hr G _) (by omega) (by decide) dX4_takeOnes_23 ?_
          refine tn_le0 (tgt := 52) X dX4_takeOnes_24 (by decide) hrb (fun h24 => ?_) (fun h24 => ?_)
          · refine tn_inc (k := 4) (w := 1) X dX4_takeOnes_52 hl rfl (by decide) (by decide) rfl (fun ls hl => ?_)
            replace hl : lv_has ls 6 [(5, _), (0, _), (1, _), (2, _), (4, _)] := hl
            refine lv_goto (tgt := 6) X.1 X.2.1 dX4_takeOnes_55 (by decide) ?_
            have e : onS (ν 9) (ν (22 + q) 2) (i + 1) (x, ν (11 + r)) = _ := onS_n (fun hh => by obtain ⟨q1, q2, q3⟩ := hh; rw [hro] at h24; omega)
            exact ih (i + 1) μ (by omega) hof (by rw [e]; exact hro) ls H locs hM hS (by rw [e]; exact (lv_sub hl [1, 2, 3, 4, 0] rfl))
          · refine lv_aload_n X.1 X.2.1 dX4_takeOnes_27 rfl (lv_at hl 1 rfl) ?_
            refine lv_aload_n X.1 X.2.1 dX4_takeOnes_28 rfl (lv_at hl 0 rfl) ?_
            refine m_get (ci := 4) (C := RX4) (T := TX4) (N := 5) X hM inA4 (by decide) (dE_tray G _) rfl 1 (by decide) kl_X4_15 rfl rfl dX4_takeOnes_29 ?_
            refine lv_iload X.1 X.2.1 dX4_takeOnes_32 (lv_at hl 4 rfl) ?_
            refine m_iald X hM (by decide) (dE_tC G _) (by omega) (by decide) dX4_takeOnes_34 ?_
            refine kNI (As := [_]) X hM hS hl.1 (c_X0_isMatchedBy hq (by rw [eqq]; exact hcs) (by rw [e9]; exact hct i (by omega))) (by omega) (dE_cou hq G _) rfl rfl kl_X4_60 mf_X0_isMatchedBy ⟨Nat.le_of_ble_eq_true rfl, Nat.le_of_ble_eq_true rfl⟩ ⟨Nat.zero_le _, Nat.zero_le _⟩ rfl (Nat.le_of_ble_eq_true rfl) dX4_takeOnes_35 (fun r35 ν35 H locs hp35 hM hS => ?_)
            obtain ⟨rfl, e35⟩ := hp35
            replace e35 := e35.symm
            subst e35
            refine tn_eq0 (tgt := 52) X dX4_takeOnes_38 (by decide) (by have := bt_le (μ (22 + q) 2) (μ 9 i); omega) (fun h38 => ?_) (fun h38 => ?_)
            · refine tn_inc (k := 4) (w := 1) X dX4_takeOnes_52 hl rfl (by decide) (by decide) rfl (fun ls hl => ?_)
              replace hl : lv_has ls 6 [(5, _), (0, _), (1, _), (2, _), (4, _)] := hl
              refine lv_goto (tgt := 6) X.1 X.2.1 dX4_takeOnes_55 (by decide) ?_
              have e : onS (ν 9) (ν (22 + q) 2) (i + 1) (x, ν (11 + r)) = _ := onS_n (fun hh => by obtain ⟨q1, q2, q3⟩ := hh; rw [eqq, e9] at h38; omega)
              exact ih (i + 1) μ (by omega) hof (by rw [e]; exact hro) ls H locs hM hS (by rw [e]; exact (lv_sub hl [1, 2, 3, 4, 0] rfl))
            · refine lv_aload_n X.1 X.2.1 dX4_takeOnes_41 rfl (lv_at hl 2 rfl) ?_
              refine lv_iload X.1 X.2.1 dX4_takeOnes_42 (lv_at hl 4 rfl) ?_
              refine lv_dup2_11 X.1 X.2.1 dX4_takeOnes_44 rfl rfl ?_
              refine m_iald X hM (by omega) (dE_row hr G _) (by omega) (by decide) dX4_takeOnes_45 ?_
              refine tn_ic (v := 1) X dX4_takeOnes_46 (by decide) ?_
              refine tn_sub X dX4_takeOnes_47 (by omega) ?_
              refine m_iast X hM hS (by omega) (fun _ => (dE_row hr G _)) (by omega) (by decide) dX4_takeOnes_48 (fun H locs hM hS => ?_)
              refine tn_dec (k := 3) X dX4_takeOnes_49 hl rfl (by omega) (by decide) rfl (fun ls hl => ?_)
              replace hl : lv_has ls 6 [(4, _), (0, _), (1, _), (2, _), (5, _)] := hl
              refine tn_inc (k := 4) (w := 1) X dX4_takeOnes_52 hl rfl (by decide) (by decide) rfl (fun ls hl => ?_)
              replace hl : lv_has ls 6 [(5, _), (4, _), (0, _), (1, _), (2, _)] := hl
              refine lv_goto (tgt := 6) X.1 X.2.1 dX4_takeOnes_55 (by decide) ?_
              have hb1 : bt (ν (22 + q) 2) (ν 9 i) = 1 := by have := bt_le (μ (22 + q) 2) (μ 9 i); rw [← eqq, ← e9]; omega
              have e : onS (ν 9) (ν (22 + q) 2) (i + 1) (x, ν (11 + r)) = _ := onS_y ⟨h17, by rw [← hro]; exact h24, hb1⟩
              exact ih (i + 1) _ (by omega) hof.up (by rw [up2_row, e, hro]) ls H locs hM hS (by rw [e]; exact (lv_sub hl [2, 3, 4, 1, 0] rfl))
  exact Lp (ν 7 4) 0 ν (by omega) (off1_rf _ _) rfl ls _ _ hM hS (lv_sub hl [2, 3, 4, 1, 0] rfl)

set_option maxHeartbeats 4000000 in
set_option maxRecDepth 100000 in
theorem c_X4_takeAmount {l : Launch} {G : dG} {ν : Mm} {q r : Nat} (hq : q < 8) (hr : r < 9) (hcs : ν (22 + q) 2 < 2 ^ 31) (hn : ν 7 4 ≤ 60) (hct : ∀ i, i < ν 7 4 → ν 9 i < 32) (hv : ν (22 + q) 1 ≤ 100000) (hf : ∀ i, i < ν 7 4 → ν (11 + r) i ≤ 10000) : cV l yX4_takeAmount cX4_takeAmount 8 2 G [.ref (ra G 7), .ref (ra G (22 + q)), .ref (ra G (11 + r))] ν (fun ν' => off1 (11 + r) ν ν' ∧ ν' (11 + r) = taF (ν 7 4) (ν 9) (ν (22 + q) 2) (ν (22 + q) 1) (ν (11 + r))) := by
  refine cV_of (by decide +kernel) (Nat.le_of_ble_eq_true rfl) ?_
  intro p e s m args below meth c ls X hM hret hlk hl
  have hS : dS G s.heap s.heap [] := va_S.rf
  have hSb : (ms (ν 9) (ν (22 + q) 2) (ν (11 + r)) (ν 7 4)) ≤ 600000 := Nat.le_trans (ms_le hf) (Nat.mul_le_mul_right 10000 hn)
  refine lv_aload_n X.1 X.2.1 dX4_takeAmount_0 rfl (lv_at hl 0 rfl) ?_
  refine lv_aload_n X.1 X.2.1 dX4_takeAmount_1 rfl (lv_at hl 1 rfl) ?_
  refine lv_aload_n X.1 X.2.1 dX4_takeAmount_2 rfl (lv_at hl 2 rfl) ?_
  refine kVI (As := [_, _]) X hM hS hl.1 (c_X4_matchedRests hq hr hcs hn hct) (by decide) (dE_tray G _) rfl rfl kl_X4_67 mf_X4_matchedRests ⟨Nat.le_of_ble_eq_true rfl, Nat.le_of_ble_eq_true rfl⟩ ⟨Nat.zero_le _, Nat.zero_le _⟩ rfl (Nat.le_of_ble_eq_true rfl) dX4_takeAmount_3 (fun r3 ν3 H locs hp3 hM hS => ?_)
  obtain ⟨rfl, e3⟩ := hp3
  replace e3 := e3.symm
  subst e3
  refine lv_istore_n X.1 X.2.1 dX4_takeAmount_6 rfl hl (by decide) rfl (fun ls hl => ?_)
  replace hl : lv_has ls 8 [(3, _), (0, _), (1, _), (2, _)] := hl
  refine lv_iload_n X.1 X.2.1 dX4_takeAmount_7 rfl (lv_at hl 0 rfl) ?_
  refine tn_gt0 (tgt := 12) X dX4_takeAmount_8 (by decide) (by omega) (fun h8 => ?_) (fun h8 => ?_)
  · refine lv_iload_n X.1 X.2.1 dX4_takeAmount_12 rfl (lv_at hl 0 rfl) ?_
    refine lv_aload_n X.1 X.2.1 dX4_takeAmount_13 rfl (lv_at hl 2 rfl) ?_
    refine m_getN (ci := 0) (C := RX0) (T := TX0) (N := 6) X hM inA0 (by omega) (dE_cou hq G _) rfl 1 (by decide) kl_X4_64 rfl rfl dX4_takeAmount_14 ?_
    refine tn_min X hl.1 kl_X4_71 (Nat.le_of_ble_eq_true rfl) (Nat.le_of_ble_eq_true rfl) (Nat.zero_le _) (Nat.zero_le _) (by omega) (by omega) dX4_takeAmount_17 ?_
    refine lv_istore X.1 X.2.1 dX4_takeAmount_20 hl (by decide) rfl (fun ls hl => ?_)
    replace hl : lv_has ls 8 [(4, _), (3, _), (0, _), (1, _), (2, _)] := hl
    refine lv_iload X.1 X.2.1 dX4_takeAmount_22 (lv_at hl 0 rfl) ?_
    refine lv_istore X.1 X.2.1 dX4_takeAmount_24 hl (by decide) rfl (fun ls hl => ?_)
    replace hl : lv_has ls 8 [(5, _), (4, _), (3, _), (0, _), (1, _), (2, _)] := hl
    refine tn_ic (v := 0) X dX4_takeAmount_26 (by decide) ?_
    refine lv_istore X.1 X.2.1 dX4_takeAmount_27 hl (by decide) rfl (fun ls hl => ?_)
    replace hl : lv_has ls 8 [(6, _), (5, _), (4, _), (3, _), (0, _), (1, _), (2, _)] := hl
    have Lp : ∀ (k : Nat) (i : Nat) (μ : Mm), i + k = ν 7 4 → off1 (11 + r) ν μ → μ (11 + r) = shF (fun x => x * (min (ms (ν 9) (ν (22 + q) 2) (ν (11 + r)) (ν 7 4)) (ν (22 + q) 1)) / (ms (ν 9) (ν (22 + q) 2) (ν (11 + r)) (ν 7 4))) i (ν 9) (ν (22 + q) 2) (ν (11 + r)) → ∀ (ls : Array Slot) (H : Heap) (locs : List Loc), dM G μ H → dS G s.heap H locs → lv_has ls 8 [(0, .ref (ra G 7)), (1, .ref (ra G (22 + q))), (2, .ref (ra G (11 + r))), (3, .int (nI (ms (ν 9) (ν (22 + q) 2) (ν (11 + r)) (ν 7 4)))), (4, .int (nI (min (ms (ν 9) (ν (22 + q) 2) (ν (11 + r)) (ν 7 4)) (ν (22 + q) 1)))), (5, .int (nI ((min (ms (ν 9) (ν (22 + q) 2) (ν (11 + r)) (ν 7 4)) (ν (22 + q) 1)) - us (fun x => x * (min (ms (ν 9) (ν (22 + q) 2) (ν (11 + r)) (ν 7 4)) (ν (22 + q) 1)) / (ms (ν 9) (ν (22 + q) 2) (ν (11 + r)) (ν 7 4))) (ν 9) (ν (22 + q) 2) (ν (11 + r)) i))), (6, .int (nI i))] → W p l e (rmD 2) s m args below meth c H locs 0 0 (MQ below (dQv G s.heap.size (fun ν' => off1 (11 + r) ν ν' ∧ ν' (11 + r) = taF (ν 7 4) (ν 9) (ν (22 + q) 2) (ν (22 + q) 1) (ν (11 + r)))) args s 0 0 (dA G s.heap.size)) (F0 m 29 ls []) := by
      intro k
      induction k with
      | zero =>
        intro i μ hi hof hro ls H locs hM hS hl
        have e7 : μ 7 = ν 7 := hof 7 (by omega)
        have e9 : μ 9 = ν 9 := hof 9 (by omega)
        have eqq : μ (22 + q) = ν (22 + q) := hof (22 + q) (by omega)
        have e74 : μ 7 4 = ν 7 4 := by rw [e7]
        refine lv_iload X.1 X.2.1 dX4_takeAmount_29 (lv_at hl 6 rfl) ?_
        refine lv_aload_n X.1 X.2.1 dX4_takeAmount_31 rfl (lv_at hl 0 rfl) ?_
        refine m_get (ci := 4) (C := RX4) (T := TX4) (N := 5) X hM inA4 (by decide) (dE_tray G _) rfl 4 (by decide) kl_X4_26 rfl rfl dX4_takeAmount_32 ?_
        refine tn_ge (tgt := 89) X dX4_takeAmount_35 (by decide) (by omega) (by omega) (fun h35 => ?_) (fun h35 => ?_)
        · refine lv_aload_n X.1 X.2.1 dX4_takeAmount_89 rfl (lv_at hl 0 rfl) ?_
          refine lv_aload_n X.1 X.2.1 dX4_takeAmount_90 rfl (lv_at hl 1 rfl) ?_
          refine lv_aload_n X.1 X.2.1 dX4_takeAmount_91 rfl (lv_at hl 2 rfl) ?_
          refine lv_iload X.1 X.2.1 dX4_takeAmount_92 (lv_at hl 5 rfl) ?_
          refine kVV (As := [_, _, _]) X hM hS hl.1 (c_X4_takeOnes (ν := μ) hq hr (by rw [eqq]; exact hcs) (by rw [e7]; exact hn) (by rw [e7, e9]; exact hct) (by omega) (fun j hj => by rw [hro]; unfold shF; have := hf j (by rw [← e7]; exact hj); split <;> omega)) (by decide) (dE_tray G _) rfl rfl kl_X4_77 mf_X4_takeOnes ⟨Nat.le_of_ble_eq_true rfl, Nat.le_of_ble_eq_true rfl⟩ ⟨Nat.zero_le _, Nat.zero_le _⟩ rfl (Nat.le_of_ble_eq_true rfl) dX4_takeAmount_94 (fun ν94 H locs hp94 hM hS => ?_)
          exact rV ⟨hof.trans hp94.1, by rw [hp94.2, hro, eqq, e7, e9, show i = ν 7 4 by omega]; unfold taF; rw [if_neg (by omega)]⟩ X hM hS hret hlk dX4_takeAmount_97
        · exfalso; omega
      | succ k ih =>
        intro i μ hi hof hro ls H locs hM hS hl
        have e7 : μ 7 = ν 7 := hof 7 (by omega)
        have e9 : μ 9 = ν 9 := hof 9 (by omega)
        have eqq : μ (22 + q) = ν (22 + q) := hof (22 + q) (by omega)
        have e74 : μ 7 4 = ν 7 4 := by rw [e7]
        refine lv_iload X.1 X.2.1 dX4_takeAmount_29 (lv_at hl 6 rfl) ?_
        refine lv_aload_n X.1 X.2.1 dX4_takeAmount_31 rfl (lv_at hl 0 rfl) ?_
        refine m_get (ci := 4) (C := RX4) (T := TX4) (N := 5) X hM inA4 (by decide) (dE_tray G _) rfl 4 (by decide) kl_X4_26 rfl rfl dX4_takeAmount_32 ?_
        refine tn_ge (tgt := 89) X dX4_takeAmount_35 (by decide) (by omega) (by omega) (fun h35 => ?_) (fun h35 => ?_)
        · exfalso; omega
        · refine lv_aload_n X.1 X.2.1 dX4_takeAmount_38 rfl (lv_at hl 1 rfl) ?_
          refine lv_aload_n X.1 X.2.1 dX4_takeAmount_39 rfl (lv_at hl 0 rfl) ?_
          refine m_get (ci := 4) (C := RX4) (T := TX4) (N := 5) X hM inA4 (by decide) (dE_tray G _) rfl 1 (by decide) kl_X4_15 rfl rfl dX4_takeAmount_40 ?_
          refine lv_iload X.1 X.2.1 dX4_takeAmount_43 (lv_at hl 6 rfl) ?_
          refine m_iald X hM (by decide) (dE_tC G _) (by omega) (by decide) dX4_takeAmount_45 ?_
          refine kNI (As := [_]) X hM hS hl.1 (c_X0_isMatchedBy hq (by rw [eqq]; exact hcs) (by rw [e9]; exact hct i (by omega))) (by omega) (dE_cou hq G _) rfl rfl kl_X4_60 mf_X0_isMatchedBy ⟨Nat.le_of_ble_eq_true rfl, Nat.le_of_ble_eq_true rfl⟩ ⟨Nat.zero_le _, Nat.zero_le _⟩ rfl (Nat.le_of_ble_eq_true rfl) dX4_takeAmount_46 (fun r46 ν46 H locs hp46 hM hS => ?_)
          obtain ⟨rfl, e46⟩ := hp46
          replace e46 := e46.symm
          subst e46
          refine tn_eq0 (tgt := 83) X dX4_takeAmount_49 (by decide) (by have := bt_le (μ (22 + q) 2) (μ 9 i); omega) (fun h49 => ?_) (fun h49 => ?_)
          · refine tn_inc (k := 6) (w := 1) X dX4_takeAmount_83 hl rfl (by decide) (by decide) rfl (fun ls hl => ?_)
            replace hl : lv_has ls 8 [(6, _), (0, _), (1, _), (2, _), (3, _), (4, _), (5, _)] := hl
            refine lv_goto (tgt := 29) X.1 X.2.1 dX4_takeAmount_86 (by decide) ?_
            have e : us (fun x => x * (min (ms (ν 9) (ν (22 + q) 2) (ν (11 + r)) (ν 7 4)) (ν (22 + q) 1)) / (ms (ν 9) (ν (22 + q) 2) (ν (11 + r)) (ν 7 4))) (ν 9) (ν (22 + q) 2) (ν (11 + r)) (i + 1) = _ := if_neg (by rw [← eqq, ← e9]; omega)
            exact ih (i + 1) μ (by omega) hof (by rw [hro, shF_skip (by rw [← eqq, ← e9]; omega)]) ls H locs hM hS (by rw [e]; exact (lv_sub hl [1, 2, 3, 4, 5, 6, 0] rfl))
          · have hfi : μ (11 + r) i = ν (11 + r) i := by rw [hro]; exact shF_at
            have hb1 : bt (ν (22 + q) 2) (ν 9 i) = 1 := by have := bt_le (μ (22 + q) 2) (μ 9 i); rw [← eqq, ← e9]; omega
            have hfi2 : μ (11 + r) i ≤ 10000 := by rw [hfi]; exact hf i (by omega)
            have hx : μ (11 + r) i * (min (ms (ν 9) (ν (22 + q) 2) (ν (11 + r)) (ν 7 4)) (ν (22 + q) 1)) ≤ 10000 * 100000 := Nat.mul_le_mul hfi2 (by omega)
            have hy : μ (11 + r) i * (min (ms (ν 9) (ν (22 + q) 2) (ν (11 + r)) (ν 7 4)) (ν (22 + q) 1)) / (ms (ν 9) (ν (22 + q) 2) (ν (11 + r)) (ν 7 4)) ≤ μ (11 + r) i := shr_le (Nat.min_le_left _ _)
            have hz : μ (11 + r) i * (min (ms (ν 9) (ν (22 + q) 2) (ν (11 + r)) (ν 7 4)) (ν (22 + q) 1)) / (ms (ν 9) (ν (22 + q) 2) (ν (11 + r)) (ν 7 4)) ≤ (min (ms (ν 9) (ν (22 + q) 2) (ν (11 + r)) (ν 7 4)) (ν (22 + q) 1)) - us (fun x => x * (min (ms (ν 9) (ν (22 + q) 2) (ν (11 + r)) (ν 7 4)) (ν (22 + q) 1)) / (ms (ν 9) (ν (22 + q) 2) (ν (11 + r)) (ν 7 4))) (ν 9) (ν (22 + q) 2) (ν (11 + r)) i := by have := us_A1 (A := (min (ms (ν 9) (ν (22 + q) 2) (ν (11 + r)) (ν 7 4)) (ν (22 + q) 1))) (show i < ν 7 4 by omega) h8 hb1; rw [hfi]; omega
            refine lv_aload_n X.1 X.2.1 dX4_takeAmount_52 rfl (lv_at hl 2 rfl) ?_
            refine lv_iload X.1 X.2.1 dX4_takeAmount_53 (lv_at hl 6 rfl) ?_
            refine m_iald X hM (by omega) (dE_row hr G _) (by omega) (by decide) dX4_takeAmount_55 ?_
            refine tn_i2l X dX4_takeAmount_56 (by omega) ?_
            refine lv_iload X.1 X.2.1 dX4_takeAmount_57 (lv_at hl 4 rfl) ?_
            refine tn_i2l X dX4_takeAmount_59 (by omega) ?_
            refine tn_lmul X dX4_takeAmount_60 ?_
            refine lv_iload_n X.1 X.2.1 dX4_takeAmount_61 rfl (lv_at hl 3 rfl) ?_
            refine tn_i2l X dX4_takeAmount_62 (by omega) ?_
            refine tn_ldiv X dX4_takeAmount_63 (by omega) h8 (by omega) ?_
            refine tn_l2i X dX4_takeAmount_64 ?_
            refine lv_istore X.1 X.2.1 dX4_takeAmount_65 hl (by decide) rfl (fun ls hl => ?_)
            replace hl : lv_has ls 8 [(7, _), (0, _), (1, _), (2, _), (3, _), (4, _), (5, _), (6, _)] := hl
            refine lv_aload_n X.1 X.2.1 dX4_takeAmount_67 rfl (lv_at hl 3 rfl) ?_
            refine lv_iload X.1 X.2.1 dX4_takeAmount_68 (lv_at hl 7 rfl) ?_
            refine lv_dup2_11 X.1 X.2.1 dX4_takeAmount_70 rfl rfl ?_
            refine m_iald X hM (by omega) (dE_row hr G _) (by omega) (by decide) dX4_takeAmount_71 ?_
            refine lv_iload X.1 X.2.1 dX4_takeAmount_72 (lv_at hl 0 rfl) ?_
            refine tn_sub X dX4_takeAmount_74 hy ?_
            refine m_iast X hM hS (by omega) (fun _ => (dE_row hr G _)) (by omega) (by decide) dX4_takeAmount_75 (fun H locs hM hS => ?_)
            refine lv_iload X.1 X.2.1 dX4_takeAmount_76 (lv_at hl 6 rfl) ?_
            refine lv_iload X.1 X.2.1 dX4_takeAmount_78 (lv_at hl 0 rfl) ?_
            refine tn_sub X dX4_takeAmount_80 hz ?_
            refine lv_istore X.1 X.2.1 dX4_takeAmount_81 hl (by decide) rfl (fun ls hl => ?_)
            replace hl : lv_has ls 8 [(5, _), (7, _), (0, _), (1, _), (2, _), (3, _), (4, _), (6, _)] := hl
            refine tn_inc (k := 7) (w := 1) X dX4_takeAmount_83 hl rfl (by decide) (by decide) rfl (fun ls hl => ?_)
            replace hl : lv_has ls 8 [(6, _), (5, _), (7, _), (0, _), (1, _), (2, _), (3, _), (4, _)] := hl
            refine lv_goto (tgt := 29) X.1 X.2.1 dX4_takeAmount_86 (by decide) ?_
            have e : us (fun x => x * (min (ms (ν 9) (ν (22 + q) 2) (ν (11 + r)) (ν 7 4)) (ν (22 + q) 1)) / (ms (ν 9) (ν (22 + q) 2) (ν (11 + r)) (ν 7 4))) (ν 9) (ν (22 + q) 2) (ν (11 + r)) (i + 1) = _ := if_pos hb1
            rw [hfi] at hl hM
            exact ih (i + 1) _ (by omega) hof.up (by rw [up2_row, hro]; exact shF_step (sh := (fun x => x * (min (ms (ν 9) (ν (22 + q) 2) (ν (11 + r)) (ν 7 4)) (ν (22 + q) 1)) / (ms (ν 9) (ν (22 + q) 2) (ν (11 + r)) (ν 7 4)))) hb1) ls H locs hM hS (by rw [e, ← Nat.sub_sub]; exact (lv_sub hl [3, 4, 5, 6, 7, 1, 0] rfl))
    exact Lp (ν 7 4) 0 ν (by omega) (off1_rf _ _) shF_0.symm ls _ _ hM hS (lv_sub hl [4, 5, 6, 3, 2, 1, 0] rfl)
  · exact rV ⟨off1_rf _ _, by unfold taF; rw [if_pos h8]⟩ X hM hS hret hlk dX4_takeAmount_11
end
section
/-! ===== a lot laid on the tray, in numbers ===== -/
/-- all cells but the tray's articles, categories and first row -/
def off3 (ν μ : Mm) : Prop := ∀ a, a ≠ 8 → a ≠ 9 → a ≠ 11 → μ a = ν a
theorem off3_rf {ν : Mm} : off3 ν ν := fun _ _ _ _ => rfl
theorem off3_step {ν μ : Mm} {j u v w : Nat} (h : off3 ν μ) : off3 ν (up2 (up2 (up2 μ 8 j u) 9 j v) (11 + 0) j w) := fun a h1 h2 h3 => by
  rw [up2_ne h3, up2_ne h2, up2_ne h1]; exact h a h1 h2 h3
/-- the first n pieces lie there, of the first a articles of the lot L -/
def layQ (ν : Mm) (L a n : Nat) (μ : Mm) : Prop := ∀ j, j < n → μ 8 j = pcA ν L a j ∧ μ 9 j = ν (L + 2) (pcA ν L a j) ∧ μ 11 j = ν (L + 1) (pcA ν L a j)
def layP (ν : Mm) (L : Nat) (μ : Mm) : Prop := μ 7 4 = cnt ν L 10 ∧ (∀ j, j ≠ 4 → μ 7 j = ν 7 j) ∧ (∀ a, a ≠ 7 → a ≠ 8 → a ≠ 9 → a ≠ 11 → μ a = ν a) ∧ layQ ν L 10 (cnt ν L 10) μ
theorem layQ_next {ν μ : Mm} {L a : Nat} (h : layQ ν L a (cnt ν L a) μ) : layQ ν L (a + 1) (cnt ν L a + 0) μ := by
  intro j hj
  have hj : j < cnt ν L a := hj
  have e : pcA ν L (a + 1) j = pcA ν L a j := if_pos hj
  rw [e]
  exact h j hj
theorem layQ_step {ν μ : Mm} {L a x : Nat} (hL : lotB L) (hof : off3 ν μ) (h : layQ ν L (a + 1) (cnt ν L a + x) μ) (hx : cnt ν L a + x < 60) : layQ ν L (a + 1) (cnt ν L a + (x + 1)) (up2 (up2 (up2 μ 8 (cnt ν L a + x) a) 9 (cnt ν L a + x) (up2 μ 8 (cnt ν L a + x) a (L + 2) a)) (11 + 0) (cnt ν L a + x) (up2 (up2 μ 8 (cnt ν L a + x) a) 9 (cnt ν L a + x) (up2 μ 8 (cnt ν L a + x) a (L + 2) a) (L + 1) a)) := by
  have hLo : L = 1 ∨ 31 ≤ L := by rcases hL with h | ⟨k, -, h⟩ <;> omega
  have e1 : up2 μ 8 (cnt ν L a + x) a (L + 2) a = ν (L + 2) a := by rw [up2_ne (by omega), hof _ (by omega) (by omega) (by omega)]
  have e2 : up2 (up2 μ 8 (cnt ν L a + x) a) 9 (cnt ν L a + x) (up2 μ 8 (cnt ν L a + x) a (L + 2) a) (L + 1) a = ν (L + 1) a := by rw [up2_ne (by omega), up2_ne (by omega), hof _ (by omega) (by omega) (by omega)]
  rw [e2, e1]
  intro j hj
  have q8 : up2 (up2 (up2 μ 8 (cnt ν L a + x) a) 9 (cnt ν L a + x) (ν (L + 2) a)) (11 + 0) (cnt ν L a + x) (ν (L + 1) a) 8 = va_up (μ 8) (cnt ν L a + x) a := by rw [up2_ne (by decide), up2_ne (by decide), up2_row]
  have q9 : up2 (up2 (up2 μ 8 (cnt ν L a + x) a) 9 (cnt ν L a + x) (ν (L + 2) a)) (11 + 0) (cnt ν L a + x) (ν (L + 1) a) 9 = va_up (μ 9) (cnt ν L a + x) (ν (L + 2) a) := by rw [up2_ne (by decide), up2_row, up2_ne (by decide)]
  have q11 : up2 (up2 (up2 μ 8 (cnt ν L a + x) a) 9 (cnt ν L a + x) (ν (L + 2) a)) (11 + 0) (cnt ν L a + x) (ν (L + 1) a) 11 = va_up (μ 11) (cnt ν L a + x) (ν (L + 1) a) := by rw [up2_row, up2_ne (by decide), up2_ne (by decide)]
  rw [q8, q9, q11]
  by_cases e : j = cnt ν L a + x
  · subst e
    have e3 : pcA ν L (a + 1) (cnt ν L a + x) = a := if_neg (by omega)
    rw [e3, va_up_self, va_up_self, va_up_self]
    exact ⟨rfl, rfl, rfl⟩
  · rw [va_up_ne _ _ e, va_up_ne _ _ e, va_up_ne _ _ e]
    exact h j (by omega)
theorem layP_of {ν μ : Mm} {L : Nat} (hof : off3 ν μ) (h : layQ ν L 10 (cnt ν L 10) μ) : layP ν L (up2 μ 7 4 (cnt ν L 10)) := by
  refine ⟨up2_at _ _ _ _, fun j hj => ?_, fun a h1 h2 h3 h4 => ?_, fun j hj => ?_⟩
  · rw [up2_ne2 hj, hof 7 (by decide) (by decide) (by decide)]
  · rw [up2_ne h1]; exact hof a h2 h3 h4
  · rw [up2_ne (by decide), up2_ne (by decide), up2_ne (by decide)]
    exact h j hj
end
section
/-! ===== Tray: ranks, bundles, apply, lay ===== -/
set_option maxHeartbeats 4000000 in
set_option maxRecDepth 100000 in
theorem c_X4_rankMatched {l : Launch} {G : dG} {ν : Mm} {q r : Nat} (hq : q < 8) (hr : r < 9) (hcs : ν (22 + q) 2 < 2 ^ 31) (hn : ν 7 4 ≤ 60) (hct : ∀ i, i < ν 7 4 → ν 9 i < 32) (hf : ∀ i, i < ν 7 4 → ν (11 + r) i ≤ 10000) : cI l yX4_rankMatched cX4_rankMatched 6 (some .int) 1 G [.ref (ra G 7), .ref (ra G (22 + q)), .ref (ra G (11 + r))] ν (fun x ν' => x = (rkS (ν 9) (ν (22 + q) 2) (ν (11 + r)) (ν 7 4)).1 ∧ off1 20 ν ν' ∧ ∀ j, j < (rkS (ν 9) (ν (22 + q) 2) (ν (11 + r)) (ν 7 4)).1 → ν' 20 j = (rkS (ν 9) (ν (22 + q) 2) (ν (11 + r)) (ν 7 4)).2 j) := by
  refine cI_of (by decide +kernel) (Nat.le_of_ble_eq_true rfl) ?_
  intro p e s m args below meth c ls X hM hret hlk hl
  have hS : dS G s.heap s.heap [] := va_S.rf
  refine tn_ic (v := 0) X dX4_rankMatched_0 (by decide) ?_
  refine lv_istore_n X.1 X.2.1 dX4_rankMatched_1 rfl hl (by decide) rfl (fun ls hl => ?_)
  replace hl : lv_has ls 6 [(3, _), (0, _), (1, _), (2, _)] := hl
  refine tn_ic (v := 0) X dX4_rankMatched_2 (by decide) ?_
  refine lv_istore X.1 X.2.1 dX4_rankMatched_3 hl (by decide) rfl (fun ls hl => ?_)
  replace hl : lv_has ls 6 [(4, _), (3, _), (0, _), (1, _), (2, _)] := hl
  have Lp : ∀ (k : Nat) (i : Nat) (μ : Mm), i + k = ν 7 4 → off1 20 ν μ → (∀ j, j < (rkS (ν 9) (ν (22 + q) 2) (ν (11 + r)) i).1 → μ 20 j = (rkS (ν 9) (ν (22 + q) 2) (ν (11 + r)) i).2 j) → ∀ (ls : Array Slot) (H : Heap) (locs : List Loc), dM G μ H → dS G s.heap H locs → lv_has ls 6 [(0, .ref (ra G 7)), (1, .ref (ra G (22 + q))), (2, .ref (ra G (11 + r))), (3, .int (nI (rkS (ν 9) (ν (22 + q) 2) (ν (11 + r)) i).1)), (4, .int (nI i))] → W p l e (rmD 1) s m args below meth c H locs 0 0 (MQ below (dQi G s.heap.size (fun x ν' => x = (rkS (ν 9) (ν (22 + q) 2) (ν (11 + r)) (ν 7 4)).1 ∧ off1 20 ν ν' ∧ ∀ j, j < (rkS (ν 9) (ν (22 + q) 2) (ν (11 + r)) (ν 7 4)).1 → ν' 20 j = (rkS (ν 9) (ν (22 + q) 2) (ν (11 + r)) (ν 7 4)).2 j)) args s 0 0 (dA G s.heap.size)) (F0 m 5 ls []) := by
    intro k
    induction k with
    | zero =>
      intro i μ hi hof hg ls H locs hM hS hl
      have e7 : μ 7 = ν 7 := hof 7 (by omega)
      have e9 : μ 9 = ν 9 := hof 9 (by omega)
      have eqq : μ (22 + q) = ν (22 + q) := hof (22 + q) (by omega)
      have e74 : μ 7 4 = ν 7 4 := by rw [e7]
      have hki := rkS_le (ν 9) (ν (22 + q) 2) (ν (11 + r)) i
      refine lv_iload X.1 X.2.1 dX4_rankMatched_5 (lv_at hl 4 rfl) ?_
      refine lv_aload_n X.1 X.2.1 dX4_rankMatched_7 rfl (lv_at hl 0 rfl) ?_
      refine m_get (ci := 4) (C := RX4) (T := TX4) (N := 5) X hM inA4 (by decide) (dE_tray G _) rfl 4 (by decide) kl_X4_26 rfl rfl dX4_rankMatched_8 ?_
      refine tn_ge (tgt := 94) X dX4_rankMatched_11 (by decide) (by omega) (by omega) (fun h11 => ?_) (fun h11 => ?_)
      · refine lv_iload_n X.1 X.2.1 dX4_rankMatched_94 rfl (lv_at hl 3 rfl) ?_
        exact rI ⟨by rw [show i = ν 7 4 by omega], hof, by rw [show ν 7 4 = i by omega]; exact hg⟩ X hM hS hret hlk dX4_rankMatched_95
      · exfalso; omega
    | succ k ih =>
      intro i μ hi hof hg ls H locs hM hS hl
      have e7 : μ 7 = ν 7 := hof 7 (by omega)
      have e9 : μ 9 = ν 9 := hof 9 (by omega)
      have eqq : μ (22 + q) = ν (22 + q) := hof (22 + q) (by omega)
      have e74 : μ 7 4 = ν 7 4 := by rw [e7]
      have hki := rkS_le (ν 9) (ν (22 + q) 2) (ν (11 + r)) i
      refine lv_iload X.1 X.2.1 dX4_rankMatched_5 (lv_at hl 4 rfl) ?_
      refine lv_aload_n X.1 X.2.1 dX4_rankMatched_7 rfl (lv_at hl 0 rfl) ?_
      refine m_get (ci := 4) (C := RX4) (T := TX4) (N := 5) X hM inA4 (by decide) (dE_tray G _) rfl 4 (by decide) kl_X4_26 rfl rfl dX4_rankMatched_8 ?_
      refine tn_ge (tgt := 94) X dX4_rankMatched_11 (by decide) (by omega) (by omega) (fun h11 => ?_) (fun h11 => ?_)
      · exfalso; omega
      · refine lv_aload_n X.1 X.2.1 dX4_rankMatched_14 rfl (lv_at hl 1 rfl) ?_
        refine lv_aload_n X.1 X.2.1 dX4_rankMatched_15 rfl (lv_at hl 0 rfl) ?_
        refine m_get (ci := 4) (C := RX4) (T := TX4) (N := 5) X hM inA4 (by decide) (dE_tray G _) rfl 1 (by decide) kl_X4_15 rfl rfl dX4_rankMatched_16 ?_
        refine lv_iload X.1 X.2.1 dX4_rankMatched_19 (lv_at hl 4 rfl) ?_
        refine m_iald X hM (by decide) (dE_tC G _) (by omega) (by decide) dX4_rankMatched_21 ?_
        refine kNI (As := [_]) X hM hS hl.1 (c_X0_isMatchedBy hq (by rw [eqq]; exact hcs) (by rw [e9]; exact hct i (by omega))) (by omega) (dE_cou hq G _) rfl rfl kl_X4_60 mf_X0_isMatchedBy ⟨Nat.le_of_ble_eq_true rfl, Nat.le_of_ble_eq_true rfl⟩ ⟨Nat.zero_le _, Nat.zero_le _⟩ rfl (Nat.le_of_ble_eq_true rfl) dX4_rankMatched_22 (fun r22 ν22 H locs hp22 hM hS => ?_)
        obtain ⟨rfl, e22⟩ := hp22
        replace e22 := e22.symm
        subst e22
        refine tn_eq0 (tgt := 88) X dX4_rankMatched_25 (by decide) (by have := bt_le (μ (22 + q) 2) (μ 9 i); omega) (fun h25 => ?_) (fun h25 => ?_)
        · refine tn_inc (k := 4) (w := 1) X dX4_rankMatched_88 hl rfl (by decide) (by decide) rfl (fun ls hl => ?_)
          replace hl : lv_has ls 6 [(4, _), (0, _), (1, _), (2, _), (3, _)] := hl
          refine lv_goto (tgt := 5) X.1 X.2.1 dX4_rankMatched_91 (by decide) ?_
          have e : rkS (ν 9) (ν (22 + q) 2) (ν (11 + r)) (i + 1) = (rkS (ν 9) (ν (22 + q) 2) (ν (11 + r)) i) := if_neg (by rw [← eqq, ← e9]; omega)
          exact ih (i + 1) μ (by omega) hof (by rw [e]; exact hg) ls H locs hM hS (by rw [e]; exact (lv_sub hl [1, 2, 3, 4, 0] rfl))
        · refine lv_iload_n X.1 X.2.1 dX4_rankMatched_28 rfl (lv_at hl 3 rfl) ?_
          refine lv_istore X.1 X.2.1 dX4_rankMatched_29 hl (by decide) rfl (fun ls hl => ?_)
          replace hl : lv_has ls 6 [(5, _), (0, _), (1, _), (2, _), (3, _), (4, _)] := hl
          have hb1 : bt (ν (22 + q) 2) (ν 9 i) = 1 := by have := bt_le (μ (22 + q) 2) (μ 9 i); rw [← eqq, ← e9]; omega
          have Lp2 : ∀ (k : Nat) (t : Nat) (κ : Mm), t = k → t ≤ (rkS (ν 9) (ν (22 + q) 2) (ν (11 + r)) i).1 → off1 20 ν κ → (∀ j, j < t → κ 20 j = (rkS (ν 9) (ν (22 + q) 2) (ν (11 + r)) i).2 j) → (∀ j, t < j → j ≤ (rkS (ν 9) (ν (22 + q) 2) (ν (11 + r)) i).1 → κ 20 j = (rkS (ν 9) (ν (22 + q) 2) (ν (11 + r)) i).2 (j - 1)) → (insP (ν (11 + r)) (rkS (ν 9) (ν (22 + q) 2) (ν (11 + r)) i).2 (ν (11 + r) i) t) = (insP (ν (11 + r)) (rkS (ν 9) (ν (22 + q) 2) (ν (11 + r)) i).2 (ν (11 + r) i) (rkS (ν 9) (ν (22 + q) 2) (ν (11 + r)) i).1) → ∀ (ls : Array Slot) (H : Heap) (locs : List Loc), dM G κ H → dS G s.heap H locs → lv_has ls 6 [(0, .ref (ra G 7)), (1, .ref (ra G (22 + q))), (2, .ref (ra G (11 + r))), (3, .int (nI (rkS (ν 9) (ν (22 + q) 2) (ν (11 + r)) i).1)), (4, .int (nI i)), (5, .int (nI t))] → W p l e (rmD 1) s m args below meth c H locs 0 0 (MQ below (dQi G s.heap.size (fun x ν' => x = (rkS (ν 9) (ν (22 + q) 2) (ν (11 + r)) (ν 7 4)).1 ∧ off1 20 ν ν' ∧ ∀ j, j < (rkS (ν 9) (ν (22 + q) 2) (ν (11 + r)) (ν 7 4)).1 → ν' 20 j = (rkS (ν 9) (ν (22 + q) 2) (ν (11 + r)) (ν 7 4)).2 j)) args s 0 0 (dA G s.heap.size)) (F0 m 31 ls []) := by
            intro k
            induction k with
            | zero =>
              intro t κ ht htm hof2 hlow hhigh hins ls H locs hM hS hl
              have e7 : κ 7 = ν 7 := hof2 7 (by omega)
              have er : κ (11 + r) = ν (11 + r) := hof2 (11 + r) (by omega)
              refine lv_iload X.1 X.2.1 dX4_rankMatched_31 (lv_at hl 5 rfl) ?_
              refine tn_le0 (tgt := 76) X dX4_rankMatched_33 (by decide) (by omega) (fun h33 => ?_) (fun h33 => ?_)
              · have hstop : (insP (ν (11 + r)) (rkS (ν 9) (ν (22 + q) 2) (ν (11 + r)) i).2 (ν (11 + r) i) t) = t := by rw [show t = 0 by omega]; rfl
                refine lv_aload_n X.1 X.2.1 dX4_rankMatched_76 rfl (lv_at hl 0 rfl) ?_
                refine m_get (ci := 4) (C := RX4) (T := TX4) (N := 5) X hM inA4 (by decide) (dE_tray G _) rfl 3 (by decide) kl_X4_23 rfl rfl dX4_rankMatched_77 ?_
                refine lv_iload X.1 X.2.1 dX4_rankMatched_80 (lv_at hl 5 rfl) ?_
                refine lv_iload X.1 X.2.1 dX4_rankMatched_82 (lv_at hl 4 rfl) ?_
                refine m_iast X hM hS (by decide) (fun _ => (dE_tK G _)) (by omega) (by decide) dX4_rankMatched_84 (fun H locs hM hS => ?_)
                refine tn_inc (k := 3) (w := 1) X dX4_rankMatched_85 hl rfl (by decide) (by decide) rfl (fun ls hl => ?_)
                replace hl : lv_has ls 6 [(3, _), (0, _), (1, _), (2, _), (4, _), (5, _)] := hl
                refine tn_inc (k := 4) (w := 1) X dX4_rankMatched_88 hl rfl (by decide) (by decide) rfl (fun ls hl => ?_)
                replace hl : lv_has ls 6 [(4, _), (3, _), (0, _), (1, _), (2, _), (5, _)] := hl
                refine lv_goto (tgt := 5) X.1 X.2.1 dX4_rankMatched_91 (by decide) ?_
                have e : rkS (ν 9) (ν (22 + q) 2) (ν (11 + r)) (i + 1) = _ := if_pos hb1
                refine ih (i + 1) _ (by omega) hof2.up ?_ ls H locs hM hS (by rw [e]; exact (lv_sub hl [2, 3, 4, 1, 0] rfl))
                rw [e, ← hins, hstop]
                intro j hj
                rw [up2_row]
                have hj : j < (rkS (ν 9) (ν (22 + q) 2) (ν (11 + r)) i).1 + 1 := hj
                show va_up (κ 20) t i j = if j < t then _ else if j = t then i else _
                by_cases c1 : j < t
                · rw [if_pos c1, va_up_ne _ _ (by omega)]; exact hlow j c1
                · rw [if_neg c1]
                  by_cases c2 : j = t
                  · rw [if_pos c2, c2, va_up_self]
                  · rw [if_neg c2, va_up_ne _ _ c2]; exact hhigh j (by omega) (by omega)
              · exfalso; omega
            | succ k ih2 =>
              intro t κ ht htm hof2 hlow hhigh hins ls H locs hM hS hl
              have e7 : κ 7 = ν 7 := hof2 7 (by omega)
              have er : κ (11 + r) = ν (11 + r) := hof2 (11 + r) (by omega)
              refine lv_iload X.1 X.2.1 dX4_rankMatched_31 (lv_at hl 5 rfl) ?_
              refine tn_le0 (tgt := 76) X dX4_rankMatched_33 (by decide) (by omega) (fun h33 => ?_) (fun h33 => ?_)
              · exfalso; omega
              · subst ht
                have hx0 : κ 20 k = (rkS (ν 9) (ν (22 + q) 2) (ν (11 + r)) i).2 k := hlow k (by omega)
                have hx2 : κ 20 k < ν 7 4 := by rw [hx0]; have := rkS_lt (ν 9) (ν (22 + q) 2) (ν (11 + r)) i k (by omega); omega
                have hx1 : κ 20 k < 60 := by omega
                refine lv_aload_n X.1 X.2.1 dX4_rankMatched_36 rfl (lv_at hl 2 rfl) ?_
                refine lv_aload_n X.1 X.2.1 dX4_rankMatched_37 rfl (lv_at hl 0 rfl) ?_
                refine m_get (ci := 4) (C := RX4) (T := TX4) (N := 5) X hM inA4 (by decide) (dE_tray G _) rfl 3 (by decide) kl_X4_23 rfl rfl dX4_rankMatched_38 ?_
                refine lv_iload X.1 X.2.1 dX4_rankMatched_41 (lv_at hl 5 rfl) ?_
                refine tn_ic (v := 1) X dX4_rankMatched_43 (by decide) ?_
                refine tn_sub X dX4_rankMatched_44 (by omega) ?_
                refine m_iald X hM (by decide) (dE_tK G _) (by omega) (by decide) dX4_rankMatched_45 ?_
                refine m_iald X hM (by omega) (dE_row hr G _) hx1 (by decide) dX4_rankMatched_46 ?_
                refine lv_aload_n X.1 X.2.1 dX4_rankMatched_47 rfl (lv_at hl 2 rfl) ?_
                refine lv_iload X.1 X.2.1 dX4_rankMatched_48 (lv_at hl 4 rfl) ?_
                refine m_iald X hM (by omega) (dE_row hr G _) (by omega) (by decide) dX4_rankMatched_50 ?_
                refine tn_ge (tgt := 76) X dX4_rankMatched_51 (by decide) (by rw [er, Nat.add_sub_cancel]; have := hf _ hx2; omega) (by rw [er]; have := hf i (by omega); omega) (fun h51 => ?_) (fun h51 => ?_)
                · have hstop : (insP (ν (11 + r)) (rkS (ν 9) (ν (22 + q) 2) (ν (11 + r)) i).2 (ν (11 + r) i) (k + 1)) = k + 1 := if_neg (by rw [Nat.add_sub_cancel, hlow k (by omega), er] at h51; omega)
                  refine lv_aload_n X.1 X.2.1 dX4_rankMatched_76 rfl (lv_at hl 0 rfl) ?_
                  refine m_get (ci := 4) (C := RX4) (T := TX4) (N := 5) X hM inA4 (by decide) (dE_tray G _) rfl 3 (by decide) kl_X4_23 rfl rfl dX4_rankMatched_77 ?_
                  refine lv_iload X.1 X.2.1 dX4_rankMatched_80 (lv_at hl 5 rfl) ?_
                  refine lv_iload X.1 X.2.1 dX4_rankMatched_82 (lv_at hl 4 rfl) ?_
                  refine m_iast X hM hS (by decide) (fun _ => (dE_tK G _)) (by omega) (by decide) dX4_rankMatched_84 (fun H locs hM hS => ?_)
                  refine tn_inc (k := 3) (w := 1) X dX4_rankMatched_85 hl rfl (by decide) (by decide) rfl (fun ls hl => ?_)
                  replace hl : lv_has ls 6 [(3, _), (0, _), (1, _), (2, _), (4, _), (5, _)] := hl
                  refine tn_inc (k := 4) (w := 1) X dX4_rankMatched_88 hl rfl (by decide) (by decide) rfl (fun ls hl => ?_)
                  replace hl : lv_has ls 6 [(4, _), (3, _), (0, _), (1, _), (2, _), (5, _)] := hl
                  refine lv_goto (tgt := 5) X.1 X.2.1 dX4_rankMatched_91 (by decide) ?_
                  have e : rkS (ν 9) (ν (22 + q) 2) (ν (11 + r)) (i + 1) = _ := if_pos hb1
                  refine ih (i + 1) _ (by omega) hof2.up ?_ ls H locs hM hS (by rw [e]; exact (lv_sub hl [2, 3, 4, 1, 0] rfl))
                  rw [e, ← hins, hstop]
                  intro j hj
                  rw [up2_row]
                  have hj : j < (rkS (ν 9) (ν (22 + q) 2) (ν (11 + r)) i).1 + 1 := hj
                  show va_up (κ 20) (k + 1) i j = if j < (k + 1) then _ else if j = (k + 1) then i else _
                  by_cases c1 : j < (k + 1)
                  · rw [if_pos c1, va_up_ne _ _ (by omega)]; exact hlow j c1
                  · rw [if_neg c1]
                    by_cases c2 : j = (k + 1)
                    · rw [if_pos c2, c2, va_up_self]
                    · rw [if_neg c2, va_up_ne _ _ c2]; exact hhigh j (by omega) (by omega)
                · refine lv_aload_n X.1 X.2.1 dX4_rankMatched_54 rfl (lv_at hl 0 rfl) ?_
                  refine m_get (ci := 4) (C := RX4) (T := TX4) (N := 5) X hM inA4 (by decide) (dE_tray G _) rfl 3 (by decide) kl_X4_23 rfl rfl dX4_rankMatched_55 ?_
                  refine lv_iload X.1 X.2.1 dX4_rankMatched_58 (lv_at hl 5 rfl) ?_
                  refine lv_aload_n X.1 X.2.1 dX4_rankMatched_60 rfl (lv_at hl 0 rfl) ?_
                  refine m_get (ci := 4) (C := RX4) (T := TX4) (N := 5) X hM inA4 (by decide) (dE_tray G _) rfl 3 (by decide) kl_X4_23 rfl rfl dX4_rankMatched_61 ?_
                  refine lv_iload X.1 X.2.1 dX4_rankMatched_64 (lv_at hl 5 rfl) ?_
                  refine tn_ic (v := 1) X dX4_rankMatched_66 (by decide) ?_
                  refine tn_sub X dX4_rankMatched_67 (by omega) ?_
                  refine m_iald X hM (by decide) (dE_tK G _) (by omega) (by decide) dX4_rankMatched_68 ?_
                  refine m_iast X hM hS (by decide) (fun _ => (dE_tK G _)) (by omega) (by decide) dX4_rankMatched_69 (fun H locs hM hS => ?_)
                  refine tn_dec (k := 5) X dX4_rankMatched_70 hl rfl (by omega) (by decide) rfl (fun ls hl => ?_)
                  replace hl : lv_has ls 6 [(5, _), (0, _), (1, _), (2, _), (3, _), (4, _)] := hl
                  refine lv_goto (tgt := 31) X.1 X.2.1 dX4_rankMatched_73 (by decide) ?_
                  refine ih2 k _ rfl (by omega) hof2.up (fun j hj => ?_) (fun j hj hj2 => ?_) ?_ ls H locs hM hS (lv_sub hl [1, 2, 3, 4, 5, 0] rfl)
                  · rw [up2_row, va_up_ne _ _ (by omega)]; exact hlow j (by omega)
                  · rw [up2_row]
                    by_cases c1 : j = k + 1
                    · rw [c1, va_up_self]; exact hlow k (by omega)
                    · rw [va_up_ne _ _ c1]; exact hhigh j (by omega) hj2
                  · rw [← hins]; exact (if_pos (by rw [Nat.add_sub_cancel, hlow k (by omega), er] at h51; exact h51)).symm
          exact Lp2 (rkS (ν 9) (ν (22 + q) 2) (ν (11 + r)) i).1 (rkS (ν 9) (ν (22 + q) 2) (ν (11 + r)) i).1 μ rfl (Nat.le_refl _) hof hg (fun j h1 h2 => absurd h1 (by omega)) rfl ls _ _ hM hS (lv_sub hl [1, 2, 3, 4, 5, 0] rfl)
  exact Lp (ν 7 4) 0 ν (by omega) (off1_rf _ _) (fun j h => absurd h (Nat.not_lt_zero j)) ls _ _ hM hS (lv_sub hl [2, 3, 4, 1, 0] rfl)

set_option maxHeartbeats 4000000 in
set_option maxRecDepth 100000 in
theorem c_X4_takeBundles {l : Launch} {G : dG} {ν : Mm} {q r : Nat} (hq : q < 8) (hr : r < 9) (hcs : ν (22 + q) 2 < 2 ^ 31) (hn : ν 7 4 ≤ 60) (hct : ∀ i, i < ν 7 4 → ν 9 i < 32) (hv : ν (22 + q) 1 ≤ 100000) (hf : ∀ i, i < ν 7 4 → ν (11 + r) i ≤ 10000) : cV l yX4_takeBundles cX4_takeBundles 6 2 G [.ref (ra G 7), .ref (ra G (22 + q)), .ref (ra G (11 + r))] ν (fun ν' => off2 20 (11 + r) ν ν' ∧ ν' (11 + r) = tbF (ν 7 4) (ν 9) (ν (22 + q) 2) (ν (22 + q) 1) (ν (11 + r))) := by
  refine cV_of (by decide +kernel) (Nat.le_of_ble_eq_true rfl) ?_
  intro p e s m args below meth c ls X hM hret hlk hl
  have hS : dS G s.heap s.heap [] := va_S.rf
  refine lv_aload_n X.1 X.2.1 dX4_takeBundles_0 rfl (lv_at hl 0 rfl) ?_
  refine lv_aload_n X.1 X.2.1 dX4_takeBundles_1 rfl (lv_at hl 1 rfl) ?_
  refine lv_aload_n X.1 X.2.1 dX4_takeBundles_2 rfl (lv_at hl 2 rfl) ?_
  refine kVI (As := [_, _]) X hM hS hl.1 (c_X4_rankMatched hq hr hcs hn hct hf) (by decide) (dE_tray G _) rfl rfl kl_X4_81 mf_X4_rankMatched ⟨Nat.le_of_ble_eq_true rfl, Nat.le_of_ble_eq_true rfl⟩ ⟨Nat.zero_le _, Nat.zero_le _⟩ rfl (Nat.le_of_ble_eq_true rfl) dX4_takeBundles_3 (fun r3 ν3 H locs hp3 hM hS => ?_)
  obtain ⟨rfl, hof3, hg3⟩ := hp3
  refine lv_istore_n X.1 X.2.1 dX4_takeBundles_6 rfl hl (by decide) rfl (fun ls hl => ?_)
  replace hl : lv_has ls 6 [(3, _), (0, _), (1, _), (2, _)] := hl
  refine tn_ic (v := 0) X dX4_takeBundles_7 (by decide) ?_
  refine lv_istore X.1 X.2.1 dX4_takeBundles_8 hl (by decide) rfl (fun ls hl => ?_)
  replace hl : lv_has ls 6 [(4, _), (3, _), (0, _), (1, _), (2, _)] := hl
  refine tn_ic (v := 0) X dX4_takeBundles_10 (by decide) ?_
  refine lv_istore X.1 X.2.1 dX4_takeBundles_11 hl (by decide) rfl (fun ls hl => ?_)
  replace hl : lv_has ls 6 [(5, _), (4, _), (3, _), (0, _), (1, _), (2, _)] := hl
  have Lp : ∀ (k : Nat) (i : Nat) (μ : Mm), i + k = (rkS (ν 9) (ν (22 + q) 2) (ν (11 + r)) (ν 7 4)).1 → off2 20 (11 + r) ν μ → (∀ j, j < (rkS (ν 9) (ν (22 + q) 2) (ν (11 + r)) (ν 7 4)).1 → μ 20 j = (rkS (ν 9) (ν (22 + q) 2) (ν (11 + r)) (ν 7 4)).2 j) → μ (11 + r) = (tbS (ν (22 + q) 1) (rkS (ν 9) (ν (22 + q) 2) (ν (11 + r)) (ν 7 4)).2 i (0, ν (11 + r))).2 → ∀ (ls : Array Slot) (H : Heap) (locs : List Loc), dM G μ H → dS G s.heap H locs → lv_has ls 6 [(0, .ref (ra G 7)), (1, .ref (ra G (22 + q))), (2, .ref (ra G (11 + r))), (3, .int (nI (rkS (ν 9) (ν (22 + q) 2) (ν (11 + r)) (ν 7 4)).1)), (4, .int (nI (tbS (ν (22 + q) 1) (rkS (ν 9) (ν (22 + q) 2) (ν (11 + r)) (ν 7 4)).2 i (0, ν (11 + r))).1)), (5, .int (nI i))] → W p l e (rmD 2) s m args below meth c H locs 0 0 (MQ below (dQv G s.heap.size (fun ν' => off2 20 (11 + r) ν ν' ∧ ν' (11 + r) = tbF (ν 7 4) (ν 9) (ν (22 + q) 2) (ν (22 + q) 1) (ν (11 + r)))) args s 0 0 (dA G s.heap.size)) (F0 m 13 ls []) := by
    intro k
    induction k with
    | zero =>
      intro i μ hi hof hg hro ls H locs hM hS hl
      have eqq : μ (22 + q) = ν (22 + q) := hof (22 + q) (by omega) (by omega)
      have hkn := rkS_le (ν 9) (ν (22 + q) 2) (ν (11 + r)) (ν 7 4)
      have hti := tbS_1 (ν (22 + q) 1) (rkS (ν 9) (ν (22 + q) 2) (ν (11 + r)) (ν 7 4)).2 (ν (11 + r)) i
      refine lv_iload X.1 X.2.1 dX4_takeBundles_13 (lv_at hl 5 rfl) ?_
      refine lv_iload_n X.1 X.2.1 dX4_takeBundles_15 rfl (lv_at hl 3 rfl) ?_
      refine tn_ge (tgt := 50) X dX4_takeBundles_16 (by decide) (by omega) (by omega) (fun h16 => ?_) (fun h16 => ?_)
      · exact rV ⟨hof, by rw [hro, show i = (rkS (ν 9) (ν (22 + q) 2) (ν (11 + r)) (ν 7 4)).1 by omega]; rfl⟩ X hM hS hret hlk dX4_takeBundles_50
      · exfalso; omega
    | succ k ih =>
      intro i μ hi hof hg hro ls H locs hM hS hl
      have eqq : μ (22 + q) = ν (22 + q) := hof (22 + q) (by omega) (by omega)
      have hkn := rkS_le (ν 9) (ν (22 + q) 2) (ν (11 + r)) (ν 7 4)
      have hti := tbS_1 (ν (22 + q) 1) (rkS (ν 9) (ν (22 + q) 2) (ν (11 + r)) (ν 7 4)).2 (ν (11 + r)) i
      refine lv_iload X.1 X.2.1 dX4_takeBundles_13 (lv_at hl 5 rfl) ?_
      refine lv_iload_n X.1 X.2.1 dX4_takeBundles_15 rfl (lv_at hl 3 rfl) ?_
      refine tn_ge (tgt := 50) X dX4_takeBundles_16 (by decide) (by omega) (by omega) (fun h16 => ?_) (fun h16 => ?_)
      · exfalso; omega
      · refine tn_inc (k := 4) (w := 1) X dX4_takeBundles_19 hl rfl (by decide) (by decide) rfl (fun ls hl => ?_)
        replace hl : lv_has ls 6 [(4, _), (0, _), (1, _), (2, _), (3, _), (5, _)] := hl
        refine lv_iload X.1 X.2.1 dX4_takeBundles_22 (lv_at hl 0 rfl) ?_
        refine lv_aload_n X.1 X.2.1 dX4_takeBundles_24 rfl (lv_at hl 2 rfl) ?_
        refine m_getN (ci := 0) (C := RX0) (T := TX0) (N := 6) X hM inA0 (by omega) (dE_cou hq G _) rfl 1 (by decide) kl_X4_64 rfl rfl dX4_takeBundles_25 ?_
        refine tn_ne (tgt := 44) X dX4_takeBundles_28 (by decide) (by omega) (by rw [eqq]; omega) (fun h28 => ?_) (fun h28 => ?_)
        · refine tn_inc (k := 5) (w := 1) X dX4_takeBundles_44 hl rfl (by decide) (by decide) rfl (fun ls hl => ?_)
          replace hl : lv_has ls 6 [(5, _), (4, _), (0, _), (1, _), (2, _), (3, _)] := hl
          refine lv_goto (tgt := 13) X.1 X.2.1 dX4_takeBundles_47 (by decide) ?_
          have e : tbS (ν (22 + q) 1) (rkS (ν 9) (ν (22 + q) 2) (ν (11 + r)) (ν 7 4)).2 (i + 1) (0, ν (11 + r)) = _ := tbS_n (by rw [eqq] at h28; exact h28)
          exact ih (i + 1) μ (by omega) hof hg (by rw [e]; exact hro) ls H locs hM hS (by rw [e]; exact (lv_sub hl [2, 3, 4, 5, 1, 0] rfl))
        · have hx0 : μ 20 i = (rkS (ν 9) (ν (22 + q) 2) (ν (11 + r)) (ν 7 4)).2 i := hg i (by omega)
          have hx1 : μ 20 i < 60 := by rw [hx0]; have := rkS_lt (ν 9) (ν (22 + q) 2) (ν (11 + r)) (ν 7 4) i (by omega); omega
          refine lv_aload_n X.1 X.2.1 dX4_takeBundles_31 rfl (lv_at hl 3 rfl) ?_
          refine lv_aload_n X.1 X.2.1 dX4_takeBundles_32 rfl (lv_at hl 1 rfl) ?_
          refine m_get (ci := 4) (C := RX4) (T := TX4) (N := 5) X hM inA4 (by decide) (dE_tray G _) rfl 3 (by decide) kl_X4_23 rfl rfl dX4_takeBundles_33 ?_
          refine lv_iload X.1 X.2.1 dX4_takeBundles_36 (lv_at hl 5 rfl) ?_
          refine m_iald X hM (by decide) (dE_tK G _) (by omega) (by decide) dX4_takeBundles_38 ?_
          refine tn_ic (v := 0) X dX4_takeBundles_39 (by decide) ?_
          refine m_iast X hM hS (by omega) (fun _ => (dE_row hr G _)) hx1 (by decide) dX4_takeBundles_40 (fun H locs hM hS => ?_)
          refine tn_ic (v := 0) X dX4_takeBundles_41 (by decide) ?_
          refine lv_istore X.1 X.2.1 dX4_takeBundles_42 hl (by decide) rfl (fun ls hl => ?_)
          replace hl : lv_has ls 6 [(4, _), (0, _), (1, _), (2, _), (3, _), (5, _)] := hl
          refine tn_inc (k := 5) (w := 1) X dX4_takeBundles_44 hl rfl (by decide) (by decide) rfl (fun ls hl => ?_)
          replace hl : lv_has ls 6 [(5, _), (4, _), (0, _), (1, _), (2, _), (3, _)] := hl
          refine lv_goto (tgt := 13) X.1 X.2.1 dX4_takeBundles_47 (by decide) ?_
          have e : tbS (ν (22 + q) 1) (rkS (ν 9) (ν (22 + q) 2) (ν (11 + r)) (ν 7 4)).2 (i + 1) (0, ν (11 + r)) = _ := tbS_y (by rw [eqq] at h28; exact h28)
          exact ih (i + 1) _ (by omega) hof.up2 (fun j hj => by rw [up2_ne (by omega)]; exact hg j hj) (by rw [up2_row, e, hro, hx0]) ls H locs hM hS (by rw [e]; exact (lv_sub hl [2, 3, 4, 5, 1, 0] rfl))
  exact Lp (rkS (ν 9) (ν (22 + q) 2) (ν (11 + r)) (ν 7 4)).1 0 _ (by omega) hof3.two hg3 (hof3 (11 + r) (by omega)) ls _ _ hM hS (lv_sub hl [3, 4, 5, 2, 1, 0] rfl)

set_option maxHeartbeats 4000000 in
set_option maxRecDepth 100000 in
theorem c_X4_apply {l : Launch} {G : dG} {ν : Mm} {q r : Nat} (hq : q < 8) (hr : r < 9) (hcs : ν (22 + q) 2 < 2 ^ 31) (hn : ν 7 4 ≤ 60) (hct : ∀ i, i < ν 7 4 → ν 9 i < 32) (hv : ν (22 + q) 1 ≤ 100000) (hv0 : ν (22 + q) 0 = 0 → ν (22 + q) 1 ≤ 100) (hk : ν (22 + q) 0 < 2 ^ 31) (hf : ∀ i, i < ν 7 4 → ν (11 + r) i ≤ 10000) : cV l yX4_apply cX4_apply 3 3 G [.ref (ra G 7), .ref (ra G (22 + q)), .int (nI r)] ν (fun ν' => off2 20 (11 + r) ν ν' ∧ ν' (11 + r) = apF (ν 7 4) (ν 9) (ν (22 + q) 0) (ν (22 + q) 2) (ν (22 + q) 1) (ν (11 + r))) := by
  refine cV_of (by decide +kernel) (Nat.le_of_ble_eq_true rfl) ?_
  intro p e s m args below meth c ls X hM hret hlk hl
  have hS : dS G s.heap s.heap [] := va_S.rf
  refine lv_aload_n X.1 X.2.1 dX4_apply_0 rfl (lv_at hl 1 rfl) ?_
  refine m_getN (ci := 0) (C := RX0) (T := TX0) (N := 6) X hM inA0 (by omega) (dE_cou hq G _) rfl 0 (by decide) kl_X4_45 rfl rfl dX4_apply_1 ?_
  rcases (show ν (22 + q) 0 = 0 ∨ ν (22 + q) 0 = 1 ∨ ν (22 + q) 0 = 2 ∨ 2 < ν (22 + q) 0 by omega) with h4 | h4 | h4 | h4
  · refine tn_as h4 ?_
    refine tn_swI (a := 0) (tgt := 32) X dX4_apply_4 (by decide) (by decide) (by decide) rfl (by decide) ?_
    refine lv_aload_n X.1 X.2.1 dX4_apply_32 rfl (lv_at hl 0 rfl) ?_
    refine lv_aload_n X.1 X.2.1 dX4_apply_33 rfl (lv_at hl 1 rfl) ?_
    refine lv_aload_n X.1 X.2.1 dX4_apply_34 rfl (lv_at hl 0 rfl) ?_
    refine m_get (ci := 4) (C := RX4) (T := TX4) (N := 5) X hM inA4 (by decide) (dE_tray G _) rfl 2 (by decide) kl_X4_20 rfl rfl dX4_apply_35 ?_
    refine lv_iload_n X.1 X.2.1 dX4_apply_38 rfl (lv_at hl 2 rfl) ?_
    refine m_aald 3 rfl X hM (by decide) (dE_tR G _) rfl hr (by decide) dX4_apply_39 ?_
    refine kVV (As := [_, _]) X hM hS hl.1 (c_X4_takePercent hq hr hcs hn hct (hv0 h4) hf) (by decide) (dE_tray G _) rfl rfl kl_X4_50 mf_X4_takePercent ⟨Nat.le_of_ble_eq_true rfl, Nat.le_of_ble_eq_true rfl⟩ ⟨Nat.zero_le _, Nat.zero_le _⟩ rfl (Nat.le_of_ble_eq_true rfl) dX4_apply_40 (fun ν40 H locs hp40 hM hS => ?_)
    refine lv_goto (tgt := 74) X.1 X.2.1 dX4_apply_43 (by decide) ?_
    exact rV ⟨hp40.1.two', by rw [hp40.2]; unfold apF; rw [if_pos h4]⟩ X hM hS hret hlk dX4_apply_74
  · refine tn_as h4 ?_
    refine tn_swI (a := 1) (tgt := 46) X dX4_apply_4 (by decide) (by decide) (by decide) rfl (by decide) ?_
    refine lv_aload_n X.1 X.2.1 dX4_apply_46 rfl (lv_at hl 0 rfl) ?_
    refine lv_aload_n X.1 X.2.1 dX4_apply_47 rfl (lv_at hl 1 rfl) ?_
    refine lv_aload_n X.1 X.2.1 dX4_apply_48 rfl (lv_at hl 0 rfl) ?_
    refine m_get (ci := 4) (C := RX4) (T := TX4) (N := 5) X hM inA4 (by decide) (dE_tray G _) rfl 2 (by decide) kl_X4_20 rfl rfl dX4_apply_49 ?_
    refine lv_iload_n X.1 X.2.1 dX4_apply_52 rfl (lv_at hl 2 rfl) ?_
    refine m_aald 3 rfl X hM (by decide) (dE_tR G _) rfl hr (by decide) dX4_apply_53 ?_
    refine kVV (As := [_, _]) X hM hS hl.1 (c_X4_takeAmount hq hr hcs hn hct hv hf) (by decide) (dE_tray G _) rfl rfl kl_X4_54 mf_X4_takeAmount ⟨Nat.le_of_ble_eq_true rfl, Nat.le_of_ble_eq_true rfl⟩ ⟨Nat.zero_le _, Nat.zero_le _⟩ rfl (Nat.le_of_ble_eq_true rfl) dX4_apply_54 (fun ν54 H locs hp54 hM hS => ?_)
    refine lv_goto (tgt := 74) X.1 X.2.1 dX4_apply_57 (by decide) ?_
    exact rV ⟨hp54.1.two', by rw [hp54.2]; unfold apF; rw [if_neg (by omega), if_pos h4]⟩ X hM hS hret hlk dX4_apply_74
  · refine tn_as h4 ?_
    refine tn_swI (a := 2) (tgt := 60) X dX4_apply_4 (by decide) (by decide) (by decide) rfl (by decide) ?_
    refine lv_aload_n X.1 X.2.1 dX4_apply_60 rfl (lv_at hl 0 rfl) ?_
    refine lv_aload_n X.1 X.2.1 dX4_apply_61 rfl (lv_at hl 1 rfl) ?_
    refine lv_aload_n X.1 X.2.1 dX4_apply_62 rfl (lv_at hl 0 rfl) ?_
    refine m_get (ci := 4) (C := RX4) (T := TX4) (N := 5) X hM inA4 (by decide) (dE_tray G _) rfl 2 (by decide) kl_X4_20 rfl rfl dX4_apply_63 ?_
    refine lv_iload_n X.1 X.2.1 dX4_apply_66 rfl (lv_at hl 2 rfl) ?_
    refine m_aald 3 rfl X hM (by decide) (dE_tR G _) rfl hr (by decide) dX4_apply_67 ?_
    refine kVV (As := [_, _]) X hM hS hl.1 (c_X4_takeBundles hq hr hcs hn hct hv hf) (by decide) (dE_tray G _) rfl rfl kl_X4_57 mf_X4_takeBundles ⟨Nat.le_of_ble_eq_true rfl, Nat.le_of_ble_eq_true rfl⟩ ⟨Nat.zero_le _, Nat.zero_le _⟩ rfl (Nat.le_of_ble_eq_true rfl) dX4_apply_68 (fun ν68 H locs hp68 hM hS => ?_)
    refine lv_goto (tgt := 74) X.1 X.2.1 dX4_apply_71 (by decide) ?_
    exact rV ⟨hp68.1, by rw [hp68.2]; unfold apF; rw [if_neg (by omega), if_neg (by omega), if_pos h4]⟩ X hM hS hret hlk dX4_apply_74
  · refine tn_swO (tgt := 74) X dX4_apply_4 (by omega) (Or.inr (by omega)) (by decide) ?_
    exact rV ⟨off2_rf _ _ _, by unfold apF; rw [if_neg (by omega), if_neg (by omega), if_neg (by omega)]⟩ X hM hS hret hlk dX4_apply_74

set_option maxHeartbeats 4000000 in
set_option maxRecDepth 100000 in
theorem c_X4_copyRow {l : Launch} {G : dG} {ν : Mm} {r t : Nat} (hr : r < 9) (ht : t < 9) (hn : ν 7 4 ≤ 60) : cV l yX4_copyRow cX4_copyRow 3 1 G [.ref (ra G 7), .int (nI r), .int (nI t)] ν (fun ν' => ν' = va_up ν (11 + t) (fun a => if a < ν 7 4 then ν (11 + r) a else ν (11 + t) a)) := by
  refine cV_of (by decide +kernel) (Nat.le_of_ble_eq_true rfl) ?_
  intro p e s m args below meth c ls X hM hret hlk hl
  have hS : dS G s.heap s.heap [] := va_S.rf
  refine lv_aload_n X.1 X.2.1 dX4_copyRow_0 rfl (lv_at hl 0 rfl) ?_
  refine m_get (ci := 4) (C := RX4) (T := TX4) (N := 5) X hM inA4 (by decide) (dE_tray G _) rfl 2 (by decide) kl_X4_20 rfl rfl dX4_copyRow_1 ?_
  refine lv_iload_n X.1 X.2.1 dX4_copyRow_4 rfl (lv_at hl 1 rfl) ?_
  refine m_aald 3 rfl X hM (by decide) (dE_tR G _) rfl hr (by decide) dX4_copyRow_5 ?_
  refine tn_ic (v := 0) X dX4_copyRow_6 (by decide) ?_
  refine lv_aload_n X.1 X.2.1 dX4_copyRow_7 rfl (lv_at hl 0 rfl) ?_
  refine m_get (ci := 4) (C := RX4) (T := TX4) (N := 5) X hM inA4 (by decide) (dE_tray G _) rfl 2 (by decide) kl_X4_20 rfl rfl dX4_copyRow_8 ?_
  refine lv_iload_n X.1 X.2.1 dX4_copyRow_11 rfl (lv_at hl 2 rfl) ?_
  refine m_aald 3 rfl X hM (by decide) (dE_tR G _) rfl ht (by decide) dX4_copyRow_12 ?_
  refine tn_ic (v := 0) X dX4_copyRow_13 (by decide) ?_
  refine lv_aload_n X.1 X.2.1 dX4_copyRow_14 rfl (lv_at hl 0 rfl) ?_
  refine m_get (ci := 4) (C := RX4) (T := TX4) (N := 5) X hM inA4 (by decide) (dE_tray G _) rfl 4 (by decide) kl_X4_26 rfl rfl dX4_copyRow_15 ?_
  refine tn_copy X hM hS hl.1 kl_X4_39 (by omega) (by omega) (dE_row hr G _) (fun _ => (dE_row ht G _)) (by omega) (by decide) (Nat.le_of_ble_eq_true rfl) (Nat.le_of_ble_eq_true rfl) (Nat.le_of_ble_eq_true rfl) dX4_copyRow_18 (fun H locs hM hS => ?_)
  exact rV rfl X hM hS hret hlk dX4_copyRow_21

set_option maxHeartbeats 4000000 in
set_option maxRecDepth 100000 in
theorem c_X4_lay {l : Launch} {G : dG} {ν : Mm} {L : Nat} (hL : lotB L) (hc6 : ∀ a, a < 10 → ν (L + 3) a ≤ 6) : cV l yX4_lay cX4_lay 5 1 G [.ref (ra G 7), .ref (ra G L)] ν (fun ν' => layP ν L ν') := by
  refine cV_of (by decide +kernel) (Nat.le_of_ble_eq_true rfl) ?_
  intro p e s m args below meth c ls X hM hret hlk hl
  have hS : dS G s.heap s.heap [] := va_S.rf
  have h60 : cnt ν L 10 ≤ 60 := cnt_le hc6
  have hLo : L = 1 ∨ 31 ≤ L := by rcases hL with h | ⟨k, -, h⟩ <;> omega
  refine tn_ic (v := 0) X dX4_lay_0 (by decide) ?_
  refine lv_istore_n X.1 X.2.1 dX4_lay_1 rfl hl (by decide) rfl (fun ls hl => ?_)
  replace hl : lv_has ls 5 [(2, _), (0, _), (1, _)] := hl
  refine tn_ic (v := 0) X dX4_lay_2 (by decide) ?_
  refine lv_istore_n X.1 X.2.1 dX4_lay_3 rfl hl (by decide) rfl (fun ls hl => ?_)
  replace hl : lv_has ls 5 [(3, _), (2, _), (0, _), (1, _)] := hl
  have Lp : ∀ (k : Nat) (a : Nat) (μ : Mm), a + k = 10 → off3 ν μ → layQ ν L a (cnt ν L a) μ → ∀ (ls : Array Slot) (H : Heap) (locs : List Loc), dM G μ H → dS G s.heap H locs → lv_has ls 5 [(0, .ref (ra G 7)), (1, .ref (ra G L)), (2, .int (nI (cnt ν L a))), (3, .int (nI a))] → W p l e (rmD 1) s m args below meth c H locs 0 0 (MQ below (dQv G s.heap.size (fun ν' => layP ν L ν')) args s 0 0 (dA G s.heap.size)) (F0 m 4 ls []) := by
    intro k
    induction k with
    | zero =>
      intro a μ ha hof hq1 ls H locs hM hS hl
      refine lv_iload_n X.1 X.2.1 dX4_lay_4 rfl (lv_at hl 3 rfl) ?_
      refine tn_bi (v := 10) X dX4_lay_5 (by decide) ?_
      refine tn_ge (tgt := 78) X dX4_lay_7 (by decide) (by omega) (by omega) (fun h7 => ?_) (fun h7 => ?_)
      · obtain rfl : a = 10 := by omega
        refine lv_aload_n X.1 X.2.1 dX4_lay_78 rfl (lv_at hl 0 rfl) ?_
        refine lv_iload_n X.1 X.2.1 dX4_lay_79 rfl (lv_at hl 2 rfl) ?_
        refine m_put (ci := 4) (C := RX4) (T := TX4) (N := 5) X hM hS inA4 tyX4_ok nmX4 (by decide) (dE_tray G _) rfl 4 (by decide) kl_X4_26 rfl rfl (by decide +kernel) (Nat.le_of_ble_eq_true rfl) (dE_tray G _) dX4_lay_80 (fun H locs hM hS => ?_)
        exact rV (layP_of hof hq1) X hM hS hret hlk dX4_lay_83
      · exfalso; omega
    | succ k ih =>
      intro a μ ha hof hq1 ls H locs hM hS hl
      have eL1 : μ (L + 1) = ν (L + 1) := hof (L + 1) (by omega) (by omega) (by omega)
      have eL2 : μ (L + 2) = ν (L + 2) := hof (L + 2) (by omega) (by omega) (by omega)
      have eL3 : μ (L + 3) = ν (L + 3) := hof (L + 3) (by omega) (by omega) (by omega)
      refine lv_iload_n X.1 X.2.1 dX4_lay_4 rfl (lv_at hl 3 rfl) ?_
      refine tn_bi (v := 10) X dX4_lay_5 (by decide) ?_
      refine tn_ge (tgt := 78) X dX4_lay_7 (by decide) (by omega) (by omega) (fun h7 => ?_) (fun h7 => ?_)
      · exfalso; omega
      · refine tn_ic (v := 0) X dX4_lay_10 (by decide) ?_
        refine lv_istore X.1 X.2.1 dX4_lay_11 hl (by decide) rfl (fun ls hl => ?_)
        replace hl : lv_has ls 5 [(4, _), (0, _), (1, _), (2, _), (3, _)] := hl
        have hc6a := hc6 a (by omega)
        have hcm : cnt ν L (a + 1) ≤ cnt ν L 10 := cnt_mono (by omega)
        have hca : cnt ν L (a + 1) = cnt ν L a + ν (L + 3) a := rfl
        have Lp2 : ∀ (k : Nat) (x : Nat) (μ : Mm), x + k = ν (L + 3) a → off3 ν μ → layQ ν L (a + 1) (cnt ν L a + x) μ → ∀ (ls : Array Slot) (H : Heap) (locs : List Loc), dM G μ H → dS G s.heap H locs → lv_has ls 5 [(0, .ref (ra G 7)), (1, .ref (ra G L)), (2, .int (nI (cnt ν L a + x))), (3, .int (nI a)), (4, .int (nI x))] → W p l e (rmD 1) s m args below meth c H locs 0 0 (MQ below (dQv G s.heap.size (fun ν' => layP ν L ν')) args s 0 0 (dA G s.heap.size)) (F0 m 13 ls []) := by
          intro k
          induction k with
          | zero =>
            intro x μ hx hof hq2 ls H locs hM hS hl
            have eL1 : μ (L + 1) = ν (L + 1) := hof (L + 1) (by omega) (by omega) (by omega)
            have eL2 : μ (L + 2) = ν (L + 2) := hof (L + 2) (by omega) (by omega) (by omega)
            have eL3 : μ (L + 3) = ν (L + 3) := hof (L + 3) (by omega) (by omega) (by omega)
            have eL3a : μ (L + 3) a = ν (L + 3) a := by rw [eL3]
            refine lv_iload X.1 X.2.1 dX4_lay_13 (lv_at hl 4 rfl) ?_
            refine lv_aload_n X.1 X.2.1 dX4_lay_15 rfl (lv_at hl 1 rfl) ?_
            refine m_getN (ci := 1) (C := RX1) (T := TX1) (N := 3) X hM inA1 (by have := lotB.lt hL; omega) (dE_lot hL G _) rfl 2 (by decide) kl_X4_30 rfl rfl dX4_lay_16 ?_
            refine lv_iload_n X.1 X.2.1 dX4_lay_19 rfl (lv_at hl 3 rfl) ?_
            refine m_iald X hM (by have := lotB.lt hL; omega) (dE_lotA hL (by decide) (by decide) G _) (by omega) (by decide) dX4_lay_20 ?_
            refine tn_ge (tgt := 72) X dX4_lay_21 (by decide) (by omega) (by omega) (fun h21 => ?_) (fun h21 => ?_)
            · refine tn_inc (k := 3) (w := 1) X dX4_lay_72 hl rfl (by decide) (by decide) rfl (fun ls hl => ?_)
              replace hl : lv_has ls 5 [(3, _), (0, _), (1, _), (2, _), (4, _)] := hl
              refine lv_goto (tgt := 4) X.1 X.2.1 dX4_lay_75 (by decide) ?_
              exact ih (a + 1) μ (by omega) hof (by rw [hca, show ν (L + 3) a = x by omega]; exact hq2) ls H locs hM hS (by rw [hca, show ν (L + 3) a = x by omega]; exact (lv_sub hl [1, 2, 3, 0] rfl))
            · exfalso; omega
          | succ k ih2 =>
            intro x μ hx hof hq2 ls H locs hM hS hl
            have eL1 : μ (L + 1) = ν (L + 1) := hof (L + 1) (by omega) (by omega) (by omega)
            have eL2 : μ (L + 2) = ν (L + 2) := hof (L + 2) (by omega) (by omega) (by omega)
            have eL3 : μ (L + 3) = ν (L + 3) := hof (L + 3) (by omega) (by omega) (by omega)
            have eL3a : μ (L + 3) a = ν (L + 3) a := by rw [eL3]
            refine lv_iload X.1 X.2.1 dX4_lay_13 (lv_at hl 4 rfl) ?_
            refine lv_aload_n X.1 X.2.1 dX4_lay_15 rfl (lv_at hl 1 rfl) ?_
            refine m_getN (ci := 1) (C := RX1) (T := TX1) (N := 3) X hM inA1 (by have := lotB.lt hL; omega) (dE_lot hL G _) rfl 2 (by decide) kl_X4_30 rfl rfl dX4_lay_16 ?_
            refine lv_iload_n X.1 X.2.1 dX4_lay_19 rfl (lv_at hl 3 rfl) ?_
            refine m_iald X hM (by have := lotB.lt hL; omega) (dE_lotA hL (by decide) (by decide) G _) (by omega) (by decide) dX4_lay_20 ?_
            refine tn_ge (tgt := 72) X dX4_lay_21 (by decide) (by omega) (by omega) (fun h21 => ?_) (fun h21 => ?_)
            · exfalso; omega
            · refine lv_iload_n X.1 X.2.1 dX4_lay_24 rfl (lv_at hl 2 rfl) ?_
              refine tn_bi (v := 60) X dX4_lay_25 (by decide) ?_
              refine tn_ge (tgt := 72) X dX4_lay_27 (by decide) (by omega) (by omega) (fun h27 => ?_) (fun h27 => ?_)
              · exfalso; omega
              · refine lv_aload_n X.1 X.2.1 dX4_lay_30 rfl (lv_at hl 0 rfl) ?_
                refine m_get (ci := 4) (C := RX4) (T := TX4) (N := 5) X hM inA4 (by decide) (dE_tray G _) rfl 0 (by decide) kl_X4_9 rfl rfl dX4_lay_31 ?_
                refine lv_iload_n X.1 X.2.1 dX4_lay_34 rfl (lv_at hl 2 rfl) ?_
                refine lv_iload_n X.1 X.2.1 dX4_lay_35 rfl (lv_at hl 3 rfl) ?_
                refine m_iast X hM hS (by decide) (fun _ => (dE_tA G _)) (by omega) (by decide) dX4_lay_36 (fun H locs hM hS => ?_)
                refine lv_aload_n X.1 X.2.1 dX4_lay_37 rfl (lv_at hl 0 rfl) ?_
                refine m_get (ci := 4) (C := RX4) (T := TX4) (N := 5) X hM inA4 (by decide) (dE_tray G _) rfl 1 (by decide) kl_X4_15 rfl rfl dX4_lay_38 ?_
                refine lv_iload_n X.1 X.2.1 dX4_lay_41 rfl (lv_at hl 2 rfl) ?_
                refine lv_aload_n X.1 X.2.1 dX4_lay_42 rfl (lv_at hl 1 rfl) ?_
                refine m_getN (ci := 1) (C := RX1) (T := TX1) (N := 3) X hM inA1 (by have := lotB.lt hL; omega) (dE_lot hL G _) rfl 1 (by decide) kl_X4_35 rfl rfl dX4_lay_43 ?_
                refine lv_iload_n X.1 X.2.1 dX4_lay_46 rfl (lv_at hl 3 rfl) ?_
                refine m_iald X hM (by have := lotB.lt hL; omega) (dE_lotA hL (by decide) (by decide) G _) (by omega) (by decide) dX4_lay_47 ?_
                refine m_iast X hM hS (by decide) (fun _ => (dE_tC G _)) (by omega) (by decide) dX4_lay_48 (fun H locs hM hS => ?_)
                refine lv_aload_n X.1 X.2.1 dX4_lay_49 rfl (lv_at hl 0 rfl) ?_
                refine m_get (ci := 4) (C := RX4) (T := TX4) (N := 5) X hM inA4 (by decide) (dE_tray G _) rfl 2 (by decide) kl_X4_20 rfl rfl dX4_lay_50 ?_
                refine tn_ic (v := 0) X dX4_lay_53 (by decide) ?_
                refine m_aald 3 rfl X hM (by decide) (dE_tR G _) rfl (by decide) (by decide) dX4_lay_54 ?_
                refine lv_iload_n X.1 X.2.1 dX4_lay_55 rfl (lv_at hl 2 rfl) ?_
                refine lv_aload_n X.1 X.2.1 dX4_lay_56 rfl (lv_at hl 1 rfl) ?_
                refine m_getN (ci := 1) (C := RX1) (T := TX1) (N := 3) X hM inA1 (by have := lotB.lt hL; omega) (dE_lot hL G _) rfl 0 (by decide) kl_X4_36 rfl rfl dX4_lay_57 ?_
                refine lv_iload_n X.1 X.2.1 dX4_lay_60 rfl (lv_at hl 3 rfl) ?_
                refine m_iald X hM (by have := lotB.lt hL; omega) (dE_lotA hL (by decide) (by decide) G _) (by omega) (by decide) dX4_lay_61 ?_
                refine m_iast X hM hS (by omega) (fun _ => (dE_row (by decide) G _)) (by omega) (by decide) dX4_lay_62 (fun H locs hM hS => ?_)
                refine tn_inc (k := 2) (w := 1) X dX4_lay_63 hl rfl (by decide) (by decide) rfl (fun ls hl => ?_)
                replace hl : lv_has ls 5 [(2, _), (0, _), (1, _), (3, _), (4, _)] := hl
                refine tn_inc (k := 4) (w := 1) X dX4_lay_66 hl rfl (by decide) (by decide) rfl (fun ls hl => ?_)
                replace hl : lv_has ls 5 [(4, _), (2, _), (0, _), (1, _), (3, _)] := hl
                refine lv_goto (tgt := 13) X.1 X.2.1 dX4_lay_69 (by decide) ?_
                exact ih2 (x + 1) _ (by omega) (off3_step hof) (layQ_step hL hof hq2 (by omega)) ls H locs hM hS (lv_sub hl [2, 3, 1, 4, 0] rfl)
        exact Lp2 (ν (L + 3) a) 0 μ (by omega) hof (layQ_next hq1) ls _ _ hM hS (lv_sub hl [1, 2, 3, 4, 0] rfl)
  exact Lp 10 0 ν (by omega) off3_rf (fun j h => absurd h (Nat.not_lt_zero j)) ls _ _ hM hS (lv_sub hl [2, 3, 1, 0] rfl)
end
section
/-! ===== the desk, in numbers ===== -/
def lotOK (ν : Mm) (L : Nat) : Prop := ∀ a, a < 10 → ν (L + 1) a ≤ 10000 ∧ ν (L + 2) a ≤ 7 ∧ ν (L + 3) a ≤ 6
def couOK (ν : Mm) (k : Nat) : Prop := ν (22 + k) 0 ≤ 3 ∧ ν (22 + k) 1 ≤ 100000 ∧ (ν (22 + k) 0 = 0 → ν (22 + k) 1 ≤ 100) ∧ ν (22 + k) 2 ≤ 255 ∧ ν (22 + k) 3 ≤ 1000000 ∧ ν (22 + k) 4 ≤ 3 ∧ ν (22 + k) 5 ≤ 9
def ordOK (ν : Mm) (k : Nat) : Prop := ν (30 + 5 * k) 1 < 256 ∧ ν (30 + 5 * k) 2 ≤ 10000 ∧ ν (30 + 5 * k) 3 ≤ 600000
/-- the desk's numbers are in their bounds -/
def WD (ν : Mm) : Prop := (∀ L, lotB L → lotOK ν L) ∧ (∀ k, k < 8 → couOK ν k) ∧ (∀ k, k < 12 → ordOK ν k) ∧ ν 0 5 ≤ 10 ∧ ν 0 6 ≤ 8 ∧ ν 0 7 ≤ 12 ∧ ν 0 8 ≤ 10000 ∧ ν 0 9 ≤ 1000000
theorem pin_le {ν : Mm} {L cs B a : Nat} (h : ∀ i, i < a → ν (L + 1) i * ν (L + 3) i ≤ B) : pin ν L cs a ≤ a * B := by
  induction a with
  | zero => simp [pin]
  | succ a ih =>
    have h1 := ih (fun i hi => h i (by omega))
    have h2 := h a (by omega)
    rw [Nat.succ_mul]
    simp only [pin]
    split <;> omega
theorem pin_succ (ν : Mm) (L cs a : Nat) : pin ν L cs (a + 1) = if bt cs (ν (L + 2) a) = 1 then pin ν L cs a + ν (L + 1) a * ν (L + 3) a else pin ν L cs a := rfl
theorem cnt_succ (ν : Mm) (L a : Nat) : cnt ν L (a + 1) = cnt ν L a + ν (L + 3) a := rfl
theorem WD.cC {ν : Mm} (h : WD ν) {L : Nat} (hL : lotB L) : ∀ a, a < 10 → ν (L + 2) a < 32 := fun a ha => by have := (h.1 L hL a ha).2.1; omega
theorem WD.c6 {ν : Mm} (h : WD ν) {L : Nat} (hL : lotB L) : ∀ a, a < 10 → ν (L + 3) a ≤ 6 := fun a ha => (h.1 L hL a ha).2.2
theorem WD.c10 {ν : Mm} (h : WD ν) {L : Nat} (hL : lotB L) : ∀ a, a < 10 → ν (L + 1) a ≤ 10000 := fun a ha => (h.1 L hL a ha).1
theorem WD.pb {ν : Mm} (h : WD ν) {L : Nat} (hL : lotB L) (cs : Nat) : pin ν L cs 10 ≤ 600000 := pin_le (B := 60000) (fun i hi => Nat.mul_le_mul (h.1 L hL i hi).1 (h.1 L hL i hi).2.2)
theorem WD.pb2 {ν : Mm} (h : WD ν) {L : Nat} (hL : lotB L) (cs : Nat) : pin ν L cs 10 < 2 ^ 31 := Nat.lt_of_le_of_lt (h.pb hL cs) (by decide)
theorem WD.n60 {ν : Mm} (h : WD ν) {L : Nat} (hL : lotB L) : cnt ν L 10 ≤ 60 := cnt_le (h.c6 hL)
theorem WD.k0 {ν : Mm} (h : WD ν) {q : Nat} (hq : q < 8) : ν (22 + q) 0 < 2 ^ 31 := by have := (h.2.1 q hq).1; omega
theorem WD.v1 {ν : Mm} (h : WD ν) {q : Nat} (hq : q < 8) : ν (22 + q) 1 ≤ 100000 := (h.2.1 q hq).2.1
theorem WD.v0 {ν : Mm} (h : WD ν) {q : Nat} (hq : q < 8) : ν (22 + q) 0 = 0 → ν (22 + q) 1 ≤ 100 := (h.2.1 q hq).2.2.1
theorem WD.cs {ν : Mm} (h : WD ν) {q : Nat} (hq : q < 8) : ν (22 + q) 2 < 2 ^ 31 := by have := (h.2.1 q hq).2.2.2.1; omega
theorem WD.mn {ν : Mm} (h : WD ν) {q : Nat} (hq : q < 8) : ν (22 + q) 3 < 2 ^ 31 := by have := (h.2.1 q hq).2.2.2.2.1; omega
theorem WD.gr {ν : Mm} (h : WD ν) {q : Nat} (hq : q < 8) : ν (22 + q) 4 < 2 ^ 31 := by have := (h.2.1 q hq).2.2.2.2.2.1; omega
theorem WD.us {ν : Mm} (h : WD ν) {q : Nat} (hq : q < 8) : ν (22 + q) 5 < 2 ^ 31 := by have := (h.2.1 q hq).2.2.2.2.2.2; omega
theorem WD.nc {ν : Mm} (h : WD ν) : ν 0 6 ≤ 8 := h.2.2.2.2.1
theorem WD.na {ν : Mm} (h : WD ν) : ν 0 5 ≤ 10 := h.2.2.2.1
theorem WD.no {ν : Mm} (h : WD ν) : ν 0 7 ≤ 12 := h.2.2.2.2.2.1
theorem WD.fe {ν : Mm} (h : WD ν) : ν 0 8 ≤ 10000 := h.2.2.2.2.2.2.1
theorem WD.li {ν : Mm} (h : WD ν) : ν 0 9 ≤ 1000000 := h.2.2.2.2.2.2.2
/-- the desk's part of the memory: all but the tray and the search -/
def dsk (ν μ : Mm) : Prop := ∀ i, i < 7 ∨ 21 < i → μ i = ν i
theorem dsk_rf (ν : Mm) : dsk ν ν := fun _ _ => rfl
theorem dsk.trans {ν μ κ : Mm} (h : dsk ν μ) (h2 : dsk μ κ) : dsk ν κ := fun i hi => (h2 i hi).trans (h i hi)
theorem dsk.symm {ν μ : Mm} (h : dsk ν μ) : dsk μ ν := fun i hi => (h i hi).symm
theorem dsk.c {ν μ : Mm} (h : dsk ν μ) (k : Nat) : μ (22 + k) = ν (22 + k) := h _ (by omega)
theorem dsk.o {ν μ : Mm} (h : dsk ν μ) (k : Nat) : μ (30 + 5 * k) = ν (30 + 5 * k) := h _ (by omega)
theorem dsk.d {ν μ : Mm} (h : dsk ν μ) : μ 0 = ν 0 := h 0 (by omega)
theorem dsk.l {ν μ : Mm} (h : dsk ν μ) {L j : Nat} (hL : lotB L) (hj : j ≤ 3) : μ (L + j) = ν (L + j) := h _ (by rcases hL with e | ⟨k, -, e⟩ <;> omega)
theorem dsk.pin {ν μ : Mm} (h : dsk ν μ) {L : Nat} (hL : lotB L) (cs a : Nat) : pin μ L cs a = pin ν L cs a := by
  induction a with
  | zero => rfl
  | succ a ih =>
    have e1 := h.l hL (show 1 ≤ 3 by decide)
    have e2 := h.l hL (show 2 ≤ 3 by decide)
    have e3 := h.l hL (show 3 ≤ 3 by decide)
    rw [pin_succ, pin_succ, ih, e1, e2, e3]
theorem dsk.cnt {ν μ : Mm} (h : dsk ν μ) {L : Nat} (hL : lotB L) (a : Nat) : cnt μ L a = cnt ν L a := by
  induction a with
  | zero => rfl
  | succ a ih =>
    have e3 := h.l hL (show 3 ≤ 3 by decide)
    rw [cnt_succ, cnt_succ, ih, e3]
theorem dsk.WD {ν μ : Mm} (h : dsk ν μ) (hW : WD ν) : WD μ := by
  refine ⟨fun L hL a ha => ?_, fun k hk => ?_, fun k hk => ?_, ?_⟩
  · have := hW.1 L hL a ha
    rw [h.l hL (by decide), h.l hL (by decide), h.l hL (by decide)]
    exact this
  · have := hW.2.1 k hk
    unfold couOK at this ⊢
    rw [h.c k]
    exact this
  · have := hW.2.2.1 k hk
    unfold ordOK at this ⊢
    rw [h.o k]
    exact this
  · rw [h.d]; exact hW.2.2.2
/-- the coupon k is reached by the lot L; is usable for the basket -/
abbrev rchd (ν : Mm) (k L : Nat) : Prop := 0 < pin ν L (ν (22 + k) 2) 10 ∧ ν (22 + k) 3 ≤ pin ν L (ν (22 + k) 2) 10
abbrev usab (ν : Mm) (k : Nat) : Prop := 0 < ν (22 + k) 5 ∧ 0 < pin ν 1 (ν (22 + k) 2) 10 ∧ ν (22 + k) 3 ≤ pin ν 1 (ν (22 + k) 2) 10
/-- none of the set st has the group g -/
def grF (ν : Mm) (st g : Nat) : Nat → Bool
  | 0 => true
  | j + 1 => grF ν st g j && !(decide (bt st j = 1) && decide (ν (22 + j) 4 = g))
def gf (ν : Mm) (k st : Nat) : Bool := decide (ν (22 + k) 4 = 0) || grF ν st (ν (22 + k) 4) (ν 0 6)
/-- the set st is allowed, as far as its first members go -/
def alF (ν : Mm) (st : Nat) : Nat → Bool
  | 0 => true
  | k + 1 => alF ν st k && (!decide (bt st k = 1) || (decide (usab ν k) && gf ν k (st &&& (2 ^ k - 1))))
def al (ν : Mm) (st : Nat) : Bool := alF ν st (ν 0 6)
/-- some of the set is FREIGHT -/
def frF (ν : Mm) (st : Nat) : Nat → Bool
  | 0 => false
  | k + 1 => frF ν st k || (decide (bt st k = 1) && decide (ν (22 + k) 0 = 3))
def feF (ν : Mm) (st g : Nat) : Nat := if ν 0 9 ≤ g ∨ cnt ν 1 10 = 0 ∨ frF ν st (ν 0 6) = true then 0 else ν 0 8
/-- the usable coupons; those that act and are reached -/
def ubF (ν : Mm) : Nat → Nat
  | 0 => 0
  | k + 1 => if usab ν k then ubF ν k ||| 2 ^ k else ubF ν k
def srF (ν : Mm) (q : Nat) : Nat → Nat
  | 0 => 0
  | k + 1 => if bt (ν (30 + 5 * q) 1) k = 1 ∧ rchd ν k (31 + 5 * q) then srF ν q k ||| 2 ^ k else srF ν q k
/-- the members of st have one use less -/
def uuM (ν : Mm) (st : Nat) : Nat → Mm
  | 0 => ν
  | k + 1 => if bt st k = 1 then up2 (uuM ν st k) (22 + k) 5 (uuM ν st k (22 + k) 5 - 1) else uuM ν st k
theorem uuM_ge (ν : Mm) (st c k : Nat) (h : c ≤ k) : uuM ν st c (22 + k) = ν (22 + k) := by
  induction c with
  | zero => rfl
  | succ c ih =>
    simp only [uuM]
    split
    · rw [up2_ne (by omega)]; exact ih (by omega)
    · exact ih (by omega)
theorem uuM_off (ν : Mm) (st c i : Nat) (h : i < 22 ∨ 22 + c ≤ i) : uuM ν st c i = ν i := by
  induction c with
  | zero => rfl
  | succ c ih =>
    simp only [uuM]
    split
    · rw [up2_ne (by omega)]; exact ih (by omega)
    · exact ih (by omega)
theorem grF_false {ν : Mm} {st g j n : Nat} (h : j < n) (hb : bt st j = 1) (hg : ν (22 + j) 4 = g) : grF ν st g n = false := by
  induction n with
  | zero => omega
  | succ n ih =>
    by_cases e : j = n
    · subst e; simp [grF, hb, hg]
    · simp [grF, ih (by omega)]
theorem al_false {ν : Mm} {st j n : Nat} (h : j < n) (hb : bt st j = 1) (hu : ¬ usab ν j ∨ gf ν j (st &&& (2 ^ j - 1)) = false) : alF ν st n = false := by
  induction n with
  | zero => omega
  | succ n ih =>
    by_cases e : j = n
    · subst e
      rcases hu with hu | hu
      · simp only [alF, hb, decide_eq_false hu]; simp
      · simp only [alF, hb, hu]; simp
    · simp [alF, ih (by omega)]
theorem frF_true {ν : Mm} {st j n : Nat} (h : j < n) (hb : bt st j = 1) (hk : ν (22 + j) 0 = 3) : frF ν st n = true := by
  induction n with
  | zero => omega
  | succ n ih =>
    by_cases e : j = n
    · subst e; simp [frF, hb, hk]
    · simp [frF, ih (by omega)]
theorem WD.ac {ν : Mm} (h : WD ν) {q : Nat} (hq : q < 12) : ν (30 + 5 * q) 1 < 2 ^ 31 := by have := (h.2.2.1 q hq).1; omega
end
section
/-! ===== CouponDesk: sets and the fee ===== -/
set_option maxHeartbeats 4000000 in
set_option maxRecDepth 100000 in
theorem c_X5_contains {l : Launch} {G : dG} {ν : Mm} {st k : Nat} (hs : st < 2 ^ 31) (hk : k < 32) : cI l yX5_contains cX5_contains 2 (some .boolean) 0 G [.int (nI st), .int (nI k)] ν (fun r ν' => r = bt st k ∧ ν' = ν) := by
  refine cI_of (by decide +kernel) (Nat.le_of_ble_eq_true rfl) ?_
  intro p e s m args below meth c ls X hM hret hlk hl
  have hS : dS G s.heap s.heap [] := va_S.rf
  refine lv_iload_n X.1 X.2.1 dX5_contains_0 rfl (lv_at hl 0 rfl) ?_
  refine lv_iload_n X.1 X.2.1 dX5_contains_1 rfl (lv_at hl 1 rfl) ?_
  refine tn_shr X dX5_contains_2 (by omega) (by omega) ?_
  refine tn_ic (v := 1) X dX5_contains_3 (by decide) ?_
  refine tn_and1 X dX5_contains_4 ?_
  refine tn_eq0 (tgt := 12) X dX5_contains_5 (by decide) (by omega) (fun h5 => ?_) (fun h5 => ?_)
  · refine tn_ic (v := 0) X dX5_contains_12 (by decide) ?_
    exact rZ ⟨by unfold bt; omega, rfl⟩ X hM hS hret hlk (by omega) dX5_contains_13
  · refine tn_ic (v := 1) X dX5_contains_8 (by decide) ?_
    refine lv_goto (tgt := 13) X.1 X.2.1 dX5_contains_9 (by decide) ?_
    exact rZ ⟨by unfold bt; omega, rfl⟩ X hM hS hret hlk (by omega) dX5_contains_13

set_option maxHeartbeats 4000000 in
set_option maxRecDepth 100000 in
theorem c_X5_isGroupFree {l : Launch} {G : dG} {ν : Mm} {q st : Nat} (hW : WD ν) (hq : q < 8) (hs : st < 2 ^ 31) : cI l yX5_isGroupFree cX5_isGroupFree 5 (some .boolean) 1 G [.ref (ra G 0), .int (nI q), .int (nI st)] ν (fun r ν' => r = (if gf ν q st = true then 1 else 0) ∧ ν' = ν) := by
  refine cI_of (by decide +kernel) (Nat.le_of_ble_eq_true rfl) ?_
  intro p e s m args below meth c ls X hM hret hlk hl
  have hS : dS G s.heap s.heap [] := va_S.rf
  have hnc := hW.nc
  refine lv_aload_n X.1 X.2.1 dX5_isGroupFree_0 rfl (lv_at hl 0 rfl) ?_
  refine m_get (ci := 5) (C := RX5) (T := TX5) (N := 10) X hM inA5 (by decide) (dE_desk G _) rfl 1 (by decide) kl_X5_18 rfl rfl dX5_isGroupFree_1 ?_
  refine lv_iload_n X.1 X.2.1 dX5_isGroupFree_4 rfl (lv_at hl 1 rfl) ?_
  refine m_aald 1 rfl X hM (by decide) (dE_coupons G _) rfl (by omega) (by decide) dX5_isGroupFree_5 ?_
  refine m_getN (ci := 0) (C := RX0) (T := TX0) (N := 6) X hM inA0 (by omega) (dE_cou (by omega) G _) rfl 4 (by decide) kl_X5_255 rfl rfl dX5_isGroupFree_6 ?_
  refine lv_istore_n X.1 X.2.1 dX5_isGroupFree_9 rfl hl (by decide) rfl (fun ls hl => ?_)
  replace hl : lv_has ls 5 [(3, _), (0, _), (1, _), (2, _)] := hl
  refine lv_iload_n X.1 X.2.1 dX5_isGroupFree_10 rfl (lv_at hl 0 rfl) ?_
  refine tn_ne0 (tgt := 16) X dX5_isGroupFree_11 (by decide) (hW.gr hq) (fun h11 => ?_) (fun h11 => ?_)
  · refine tn_ic (v := 0) X dX5_isGroupFree_16 (by decide) ?_
    refine lv_istore X.1 X.2.1 dX5_isGroupFree_17 hl (by decide) rfl (fun ls hl => ?_)
    replace hl : lv_has ls 5 [(4, _), (3, _), (0, _), (1, _), (2, _)] := hl
    have Lp : ∀ (k : Nat) (j : Nat), j + k = ν 0 6 → grF ν st (ν (22 + q) 4) j = true → ∀ (ls : Array Slot) (H : Heap) (locs : List Loc), dM G ν H → dS G s.heap H locs → lv_has ls 5 [(0, .ref (ra G 0)), (2, .int (nI st)), (3, .int (nI (ν (22 + q) 4))), (4, .int (nI j))] → W p l e (rmD 1) s m args below meth c H locs 0 0 (MQ below (dQi G s.heap.size (fun r ν' => r = (if gf ν q st = true then 1 else 0) ∧ ν' = ν)) args s 0 0 (dA G s.heap.size)) (F0 m 19 ls []) := by
      intro k
      induction k with
      | zero =>
        intro j hj hg ls H locs hM hS hl
        refine lv_iload X.1 X.2.1 dX5_isGroupFree_19 (lv_at hl 3 rfl) ?_
        refine lv_aload_n X.1 X.2.1 dX5_isGroupFree_21 rfl (lv_at hl 0 rfl) ?_
        refine m_get (ci := 5) (C := RX5) (T := TX5) (N := 10) X hM inA5 (by decide) (dE_desk G _) rfl 6 (by decide) kl_X5_46 rfl rfl dX5_isGroupFree_22 ?_
        refine tn_ge (tgt := 59) X dX5_isGroupFree_25 (by decide) (by omega) (by omega) (fun h25 => ?_) (fun h25 => ?_)
        · refine tn_ic (v := 1) X dX5_isGroupFree_59 (by decide) ?_
          exact rZ ⟨(if_pos (by unfold gf; rw [show ν 0 6 = j by omega, hg]; simp)).symm, rfl⟩ X hM hS hret hlk (by omega) dX5_isGroupFree_60
        · exfalso; omega
      | succ k ih =>
        intro j hj hg ls H locs hM hS hl
        refine lv_iload X.1 X.2.1 dX5_isGroupFree_19 (lv_at hl 3 rfl) ?_
        refine lv_aload_n X.1 X.2.1 dX5_isGroupFree_21 rfl (lv_at hl 0 rfl) ?_
        refine m_get (ci := 5) (C := RX5) (T := TX5) (N := 10) X hM inA5 (by decide) (dE_desk G _) rfl 6 (by decide) kl_X5_46 rfl rfl dX5_isGroupFree_22 ?_
        refine tn_ge (tgt := 59) X dX5_isGroupFree_25 (by decide) (by omega) (by omega) (fun h25 => ?_) (fun h25 => ?_)
        · exfalso; omega
        · refine lv_iload_n X.1 X.2.1 dX5_isGroupFree_28 rfl (lv_at hl 1 rfl) ?_
          refine lv_iload X.1 X.2.1 dX5_isGroupFree_29 (lv_at hl 3 rfl) ?_
          refine kSI (As := [_, _]) X hM hS hl.1 (c_X5_contains hs (by omega)) kl_X5_249 mf_X5_contains ⟨Nat.le_of_ble_eq_true rfl, Nat.le_of_ble_eq_true rfl⟩ ⟨Nat.zero_le _, Nat.zero_le _⟩ rfl (Nat.le_of_ble_eq_true rfl) dX5_isGroupFree_31 (fun r31 ν31 H locs hp31 hM hS => ?_)
          obtain ⟨rfl, e31⟩ := hp31
          replace e31 := e31.symm
          subst e31
          refine tn_eq0 (tgt := 53) X dX5_isGroupFree_34 (by decide) (by have := bt_le st j; omega) (fun h34 => ?_) (fun h34 => ?_)
          · refine tn_inc (k := 3) (w := 1) X dX5_isGroupFree_53 hl rfl (by decide) (by decide) rfl (fun ls hl => ?_)
            replace hl : lv_has ls 5 [(4, _), (0, _), (2, _), (3, _)] := hl
            refine lv_goto (tgt := 19) X.1 X.2.1 dX5_isGroupFree_56 (by decide) ?_
            exact ih (j + 1) (by omega) (by simp [grF, hg, h34]) ls H locs hM hS (lv_sub hl [1, 2, 3, 0] rfl)
          · refine lv_aload_n X.1 X.2.1 dX5_isGroupFree_37 rfl (lv_at hl 0 rfl) ?_
            refine m_get (ci := 5) (C := RX5) (T := TX5) (N := 10) X hM inA5 (by decide) (dE_desk G _) rfl 1 (by decide) kl_X5_18 rfl rfl dX5_isGroupFree_38 ?_
            refine lv_iload X.1 X.2.1 dX5_isGroupFree_41 (lv_at hl 3 rfl) ?_
            refine m_aald 1 rfl X hM (by decide) (dE_coupons G _) rfl (show j < 8 by omega) (by decide) dX5_isGroupFree_43 ?_
            refine m_getN (ci := 0) (C := RX0) (T := TX0) (N := 6) X hM inA0 (by omega) (dE_cou (show j < 8 by omega) G _) rfl 4 (by decide) kl_X5_255 rfl rfl dX5_isGroupFree_44 ?_
            refine lv_iload_n X.1 X.2.1 dX5_isGroupFree_47 rfl (lv_at hl 2 rfl) ?_
            refine tn_ne (tgt := 53) X dX5_isGroupFree_48 (by decide) (hW.gr (show j < 8 by omega)) (hW.gr hq) (fun h48 => ?_) (fun h48 => ?_)
            · refine tn_inc (k := 3) (w := 1) X dX5_isGroupFree_53 hl rfl (by decide) (by decide) rfl (fun ls hl => ?_)
              replace hl : lv_has ls 5 [(4, _), (0, _), (2, _), (3, _)] := hl
              refine lv_goto (tgt := 19) X.1 X.2.1 dX5_isGroupFree_56 (by decide) ?_
              exact ih (j + 1) (by omega) (by simp [grF, hg, h48]) ls H locs hM hS (lv_sub hl [1, 2, 3, 0] rfl)
            · refine tn_ic (v := 0) X dX5_isGroupFree_51 (by decide) ?_
              exact rZ ⟨(if_neg (by unfold gf; rw [grF_false (show j < ν 0 6 by omega) (by have := bt_le st j; omega) h48]; simp [h11])).symm, rfl⟩ X hM hS hret hlk (by omega) dX5_isGroupFree_52
    exact Lp (ν 0 6) 0 (by omega) rfl ls _ _ hM hS (lv_sub hl [2, 4, 1, 0] rfl)
  · refine tn_ic (v := 1) X dX5_isGroupFree_14 (by decide) ?_
    exact rZ ⟨(if_pos (by unfold gf; simp [h11])).symm, rfl⟩ X hM hS hret hlk (by omega) dX5_isGroupFree_15

set_option maxHeartbeats 4000000 in
set_option maxRecDepth 100000 in
theorem c_X5_isSetAllowed {l : Launch} {G : dG} {ν : Mm} {st : Nat} (hW : WD ν) (hs : st < 2 ^ 31) : cI l yX5_isSetAllowed cX5_isSetAllowed 4 (some .boolean) 3 G [.ref (ra G 0), .int (nI st)] ν (fun r ν' => r = (if al ν st = true then 1 else 0) ∧ ν' = ν) := by
  refine cI_of (by decide +kernel) (Nat.le_of_ble_eq_true rfl) ?_
  intro p e s m args below meth c ls X hM hret hlk hl
  have hS : dS G s.heap s.heap [] := va_S.rf
  have hnc := hW.nc
  refine tn_ic (v := 0) X dX5_isSetAllowed_0 (by decide) ?_
  refine lv_istore_n X.1 X.2.1 dX5_isSetAllowed_1 rfl hl (by decide) rfl (fun ls hl => ?_)
  replace hl : lv_has ls 4 [(2, _), (0, _), (1, _)] := hl
  have Lp : ∀ (k : Nat) (j : Nat), j + k = ν 0 6 → alF ν st j = true → ∀ (ls : Array Slot) (H : Heap) (locs : List Loc), dM G ν H → dS G s.heap H locs → lv_has ls 4 [(0, .ref (ra G 0)), (1, .int (nI st)), (2, .int (nI j))] → W p l e (rmD 3) s m args below meth c H locs 0 0 (MQ below (dQi G s.heap.size (fun r ν' => r = (if al ν st = true then 1 else 0) ∧ ν' = ν)) args s 0 0 (dA G s.heap.size)) (F0 m 2 ls []) := by
    intro k
    induction k with
    | zero =>
      intro j hj hg ls H locs hM hS hl
      refine lv_iload_n X.1 X.2.1 dX5_isSetAllowed_2 rfl (lv_at hl 2 rfl) ?_
      refine lv_aload_n X.1 X.2.1 dX5_isSetAllowed_3 rfl (lv_at hl 0 rfl) ?_
      refine m_get (ci := 5) (C := RX5) (T := TX5) (N := 10) X hM inA5 (by decide) (dE_desk G _) rfl 6 (by decide) kl_X5_46 rfl rfl dX5_isSetAllowed_4 ?_
      refine tn_ge (tgt := 59) X dX5_isSetAllowed_7 (by decide) (by omega) (by omega) (fun h7 => ?_) (fun h7 => ?_)
      · refine tn_ic (v := 1) X dX5_isSetAllowed_59 (by decide) ?_
        exact rZ ⟨(if_pos (by unfold al; rw [show ν 0 6 = j by omega, hg])).symm, rfl⟩ X hM hS hret hlk (by omega) dX5_isSetAllowed_60
      · exfalso; omega
    | succ k ih =>
      intro j hj hg ls H locs hM hS hl
      refine lv_iload_n X.1 X.2.1 dX5_isSetAllowed_2 rfl (lv_at hl 2 rfl) ?_
      refine lv_aload_n X.1 X.2.1 dX5_isSetAllowed_3 rfl (lv_at hl 0 rfl) ?_
      refine m_get (ci := 5) (C := RX5) (T := TX5) (N := 10) X hM inA5 (by decide) (dE_desk G _) rfl 6 (by decide) kl_X5_46 rfl rfl dX5_isSetAllowed_4 ?_
      refine tn_ge (tgt := 59) X dX5_isSetAllowed_7 (by decide) (by omega) (by omega) (fun h7 => ?_) (fun h7 => ?_)
      · exfalso; omega
      · refine lv_iload_n X.1 X.2.1 dX5_isSetAllowed_10 rfl (lv_at hl 1 rfl) ?_
        refine lv_iload_n X.1 X.2.1 dX5_isSetAllowed_11 rfl (lv_at hl 2 rfl) ?_
        refine kSI (As := [_, _]) X hM hS hl.1 (c_X5_contains hs (by omega)) kl_X5_249 mf_X5_contains ⟨Nat.le_of_ble_eq_true rfl, Nat.le_of_ble_eq_true rfl⟩ ⟨Nat.zero_le _, Nat.zero_le _⟩ rfl (Nat.le_of_ble_eq_true rfl) dX5_isSetAllowed_12 (fun r12 ν12 H locs hp12 hM hS => ?_)
        obtain ⟨rfl, e12⟩ := hp12
        replace e12 := e12.symm
        subst e12
        refine tn_eq0 (tgt := 53) X dX5_isSetAllowed_15 (by decide) (by have := bt_le st j; omega) (fun h15 => ?_) (fun h15 => ?_)
        · refine tn_inc (k := 2) (w := 1) X dX5_isSetAllowed_53 hl rfl (by decide) (by decide) rfl (fun ls hl => ?_)
          replace hl : lv_has ls 4 [(2, _), (0, _), (1, _)] := hl
          refine lv_goto (tgt := 2) X.1 X.2.1 dX5_isSetAllowed_56 (by decide) ?_
          exact ih (j + 1) (by omega) (by simp [alF, hg, h15]) ls H locs hM hS (lv_sub hl [1, 2, 0] rfl)
        · refine lv_iload_n X.1 X.2.1 dX5_isSetAllowed_18 rfl (lv_at hl 1 rfl) ?_
          refine tn_ic (v := 1) X dX5_isSetAllowed_19 (by decide) ?_
          refine lv_iload_n X.1 X.2.1 dX5_isSetAllowed_20 rfl (lv_at hl 2 rfl) ?_
          refine tn_shl1 X dX5_isSetAllowed_21 (by omega) ?_
          refine tn_ic (v := 1) X dX5_isSetAllowed_22 (by decide) ?_
          refine tn_sub X dX5_isSetAllowed_23 (Nat.one_le_two_pow) ?_
          refine tn_and X dX5_isSetAllowed_24 ?_
          refine lv_istore_n X.1 X.2.1 dX5_isSetAllowed_25 rfl hl (by decide) rfl (fun ls hl => ?_)
          replace hl : lv_has ls 4 [(3, _), (0, _), (1, _), (2, _)] := hl
          refine lv_aload_n X.1 X.2.1 dX5_isSetAllowed_26 rfl (lv_at hl 1 rfl) ?_
          refine m_get (ci := 5) (C := RX5) (T := TX5) (N := 10) X hM inA5 (by decide) (dE_desk G _) rfl 1 (by decide) kl_X5_18 rfl rfl dX5_isSetAllowed_27 ?_
          refine lv_iload_n X.1 X.2.1 dX5_isSetAllowed_30 rfl (lv_at hl 3 rfl) ?_
          refine m_aald 1 rfl X hM (by decide) (dE_coupons G _) rfl (show j < 8 by omega) (by decide) dX5_isSetAllowed_31 ?_
          refine lv_aload_n X.1 X.2.1 dX5_isSetAllowed_32 rfl (lv_at hl 1 rfl) ?_
          refine m_get (ci := 5) (C := RX5) (T := TX5) (N := 10) X hM inA5 (by decide) (dE_desk G _) rfl 0 (by decide) kl_X5_12 rfl rfl dX5_isSetAllowed_33 ?_
          refine kNI (As := [_]) X hM hS hl.1 (c_X0_isUsableFor (show j < 8 by omega) lotB_1 (hW.cs (show j < 8 by omega)) (hW.cC lotB_1) (hW.pb2 lotB_1 _) (hW.mn (show j < 8 by omega)) (hW.us (show j < 8 by omega))) (by omega) (dE_cou (show j < 8 by omega) G _) rfl rfl kl_X5_128 mf_X0_isUsableFor ⟨Nat.le_of_ble_eq_true rfl, Nat.le_of_ble_eq_true rfl⟩ ⟨Nat.zero_le _, Nat.zero_le _⟩ rfl (Nat.le_of_ble_eq_true rfl) dX5_isSetAllowed_36 (fun r36 ν36 H locs hp36 hM hS => ?_)
          obtain ⟨rfl, e36⟩ := hp36
          replace e36 := e36.symm
          subst e36
          refine tn_eq0 (tgt := 51) X dX5_isSetAllowed_39 (by decide) (by split <;> decide) (fun h39 => ?_) (fun h39 => ?_)
          · refine tn_ic (v := 0) X dX5_isSetAllowed_51 (by decide) ?_
            exact rZ ⟨(if_neg (by unfold al; rw [al_false (show j < ν 0 6 by omega) (by have := bt_le st j; omega) (Or.inl (ite0 h39))]; simp)).symm, rfl⟩ X hM hS hret hlk (by omega) dX5_isSetAllowed_52
          · refine lv_aload_n X.1 X.2.1 dX5_isSetAllowed_42 rfl (lv_at hl 1 rfl) ?_
            refine lv_iload_n X.1 X.2.1 dX5_isSetAllowed_43 rfl (lv_at hl 3 rfl) ?_
            refine lv_iload_n X.1 X.2.1 dX5_isSetAllowed_44 rfl (lv_at hl 0 rfl) ?_
            refine kVI (As := [_, _]) X hM hS hl.1 (c_X5_isGroupFree hW (show j < 8 by omega) (Nat.lt_of_le_of_lt Nat.and_le_left hs)) (by decide) (dE_desk G _) rfl rfl kl_X5_252 mf_X5_isGroupFree ⟨Nat.le_of_ble_eq_true rfl, Nat.le_of_ble_eq_true rfl⟩ ⟨Nat.zero_le _, Nat.zero_le _⟩ rfl (Nat.le_of_ble_eq_true rfl) dX5_isSetAllowed_45 (fun r45 ν45 H locs hp45 hM hS => ?_)
            obtain ⟨rfl, e45⟩ := hp45
            replace e45 := e45.symm
            subst e45
            refine tn_ne0 (tgt := 53) X dX5_isSetAllowed_48 (by decide) (by split <;> decide) (fun h48 => ?_) (fun h48 => ?_)
            · refine tn_inc (k := 3) (w := 1) X dX5_isSetAllowed_53 hl rfl (by decide) (by decide) rfl (fun ls hl => ?_)
              replace hl : lv_has ls 4 [(2, _), (3, _), (0, _), (1, _)] := hl
              refine lv_goto (tgt := 2) X.1 X.2.1 dX5_isSetAllowed_56 (by decide) ?_
              exact ih (j + 1) (by omega) (by have q1 : decide (usab ν j) = true := decide_eq_true (ite1 h39); simp only [alF, hg, q1, ite1 h48]; simp) ls H locs hM hS (lv_sub hl [2, 3, 0] rfl)
            · refine tn_ic (v := 0) X dX5_isSetAllowed_51 (by decide) ?_
              exact rZ ⟨(if_neg (by unfold al; rw [al_false (show j < ν 0 6 by omega) (by have := bt_le st j; omega) (Or.inr (by simpa using ite0 h48))]; simp)).symm, rfl⟩ X hM hS hret hlk (by omega) dX5_isSetAllowed_52
  exact Lp (ν 0 6) 0 (by omega) rfl ls _ _ hM hS (lv_sub hl [1, 2, 0] rfl)

set_option maxHeartbeats 4000000 in
set_option maxRecDepth 100000 in
theorem c_X5_hasFreight {l : Launch} {G : dG} {ν : Mm} {st : Nat} (hW : WD ν) (hs : st < 2 ^ 31) : cI l yX5_hasFreight cX5_hasFreight 3 (some .boolean) 1 G [.ref (ra G 0), .int (nI st)] ν (fun r ν' => r = (if frF ν st (ν 0 6) = true then 1 else 0) ∧ ν' = ν) := by
  refine cI_of (by decide +kernel) (Nat.le_of_ble_eq_true rfl) ?_
  intro p e s m args below meth c ls X hM hret hlk hl
  have hS : dS G s.heap s.heap [] := va_S.rf
  have hnc := hW.nc
  refine tn_ic (v := 0) X dX5_hasFreight_0 (by decide) ?_
  refine lv_istore_n X.1 X.2.1 dX5_hasFreight_1 rfl hl (by decide) rfl (fun ls hl => ?_)
  replace hl : lv_has ls 3 [(2, _), (0, _), (1, _)] := hl
  have Lp : ∀ (k : Nat) (j : Nat), j + k = ν 0 6 → frF ν st j = false → ∀ (ls : Array Slot) (H : Heap) (locs : List Loc), dM G ν H → dS G s.heap H locs → lv_has ls 3 [(0, .ref (ra G 0)), (1, .int (nI st)), (2, .int (nI j))] → W p l e (rmD 1) s m args below meth c H locs 0 0 (MQ below (dQi G s.heap.size (fun r ν' => r = (if frF ν st (ν 0 6) = true then 1 else 0) ∧ ν' = ν)) args s 0 0 (dA G s.heap.size)) (F0 m 2 ls []) := by
    intro k
    induction k with
    | zero =>
      intro j hj hg ls H locs hM hS hl
      refine lv_iload_n X.1 X.2.1 dX5_hasFreight_2 rfl (lv_at hl 2 rfl) ?_
      refine lv_aload_n X.1 X.2.1 dX5_hasFreight_3 rfl (lv_at hl 0 rfl) ?_
      refine m_get (ci := 5) (C := RX5) (T := TX5) (N := 10) X hM inA5 (by decide) (dE_desk G _) rfl 6 (by decide) kl_X5_46 rfl rfl dX5_hasFreight_4 ?_
      refine tn_ge (tgt := 39) X dX5_hasFreight_7 (by decide) (by omega) (by omega) (fun h7 => ?_) (fun h7 => ?_)
      · refine tn_ic (v := 0) X dX5_hasFreight_39 (by decide) ?_
        exact rZ ⟨(if_neg (by rw [show ν 0 6 = j by omega, hg]; simp)).symm, rfl⟩ X hM hS hret hlk (by omega) dX5_hasFreight_40
      · exfalso; omega
    | succ k ih =>
      intro j hj hg ls H locs hM hS hl
      refine lv_iload_n X.1 X.2.1 dX5_hasFreight_2 rfl (lv_at hl 2 rfl) ?_
      refine lv_aload_n X.1 X.2.1 dX5_hasFreight_3 rfl (lv_at hl 0 rfl) ?_
      refine m_get (ci := 5) (C := RX5) (T := TX5) (N := 10) X hM inA5 (by decide) (dE_desk G _) rfl 6 (by decide) kl_X5_46 rfl rfl dX5_hasFreight_4 ?_
      refine tn_ge (tgt := 39) X dX5_hasFreight_7 (by decide) (by omega) (by omega) (fun h7 => ?_) (fun h7 => ?_)
      · exfalso; omega
      · refine lv_iload_n X.1 X.2.1 dX5_hasFreight_10 rfl (lv_at hl 1 rfl) ?_
        refine lv_iload_n X.1 X.2.1 dX5_hasFreight_11 rfl (lv_at hl 2 rfl) ?_
        refine kSI (As := [_, _]) X hM hS hl.1 (c_X5_contains hs (by omega)) kl_X5_249 mf_X5_contains ⟨Nat.le_of_ble_eq_true rfl, Nat.le_of_ble_eq_true rfl⟩ ⟨Nat.zero_le _, Nat.zero_le _⟩ rfl (Nat.le_of_ble_eq_true rfl) dX5_hasFreight_12 (fun r12 ν12 H locs hp12 hM hS => ?_)
        obtain ⟨rfl, e12⟩ := hp12
        replace e12 := e12.symm
        subst e12
        refine tn_eq0 (tgt := 33) X dX5_hasFreight_15 (by decide) (by have := bt_le st j; omega) (fun h15 => ?_) (fun h15 => ?_)
        · refine tn_inc (k := 2) (w := 1) X dX5_hasFreight_33 hl rfl (by decide) (by decide) rfl (fun ls hl => ?_)
          replace hl : lv_has ls 3 [(2, _), (0, _), (1, _)] := hl
          refine lv_goto (tgt := 2) X.1 X.2.1 dX5_hasFreight_36 (by decide) ?_
          exact ih (j + 1) (by omega) (by simp [frF, hg, h15]) ls H locs hM hS (lv_sub hl [1, 2, 0] rfl)
        · refine lv_aload_n X.1 X.2.1 dX5_hasFreight_18 rfl (lv_at hl 0 rfl) ?_
          refine m_get (ci := 5) (C := RX5) (T := TX5) (N := 10) X hM inA5 (by decide) (dE_desk G _) rfl 1 (by decide) kl_X5_18 rfl rfl dX5_hasFreight_19 ?_
          refine lv_iload_n X.1 X.2.1 dX5_hasFreight_22 rfl (lv_at hl 2 rfl) ?_
          refine m_aald 1 rfl X hM (by decide) (dE_coupons G _) rfl (show j < 8 by omega) (by decide) dX5_hasFreight_23 ?_
          refine m_getN (ci := 0) (C := RX0) (T := TX0) (N := 6) X hM inA0 (by omega) (dE_cou (show j < 8 by omega) G _) rfl 0 (by decide) kl_X5_275 rfl rfl dX5_hasFreight_24 ?_
          refine tn_ic (v := 3) X dX5_hasFreight_27 (by decide) ?_
          refine tn_ne (tgt := 33) X dX5_hasFreight_28 (by decide) (hW.k0 (show j < 8 by omega)) (by decide) (fun h28 => ?_) (fun h28 => ?_)
          · refine tn_inc (k := 2) (w := 1) X dX5_hasFreight_33 hl rfl (by decide) (by decide) rfl (fun ls hl => ?_)
            replace hl : lv_has ls 3 [(2, _), (0, _), (1, _)] := hl
            refine lv_goto (tgt := 2) X.1 X.2.1 dX5_hasFreight_36 (by decide) ?_
            exact ih (j + 1) (by omega) (by simp [frF, hg, h28]) ls H locs hM hS (lv_sub hl [1, 2, 0] rfl)
          · refine tn_ic (v := 1) X dX5_hasFreight_31 (by decide) ?_
            exact rZ ⟨(if_pos (frF_true (show j < ν 0 6 by omega) (by have := bt_le st j; omega) h28)).symm, rfl⟩ X hM hS hret hlk (by omega) dX5_hasFreight_32
  exact Lp (ν 0 6) 0 (by omega) rfl ls _ _ hM hS (lv_sub hl [1, 2, 0] rfl)

set_option maxHeartbeats 4000000 in
set_option maxRecDepth 100000 in
theorem c_X5_feeFor {l : Launch} {G : dG} {ν : Mm} {st g : Nat} (hW : WD ν) (hs : st < 2 ^ 31) (hg : g < 2 ^ 31) : cI l yX5_feeFor cX5_feeFor 3 (some .int) 2 G [.ref (ra G 0), .int (nI st), .int (nI g)] ν (fun r ν' => r = feF ν st g ∧ ν' = ν) := by
  refine cI_of (by decide +kernel) (Nat.le_of_ble_eq_true rfl) ?_
  intro p e s m args below meth c ls X hM hret hlk hl
  have hS : dS G s.heap s.heap [] := va_S.rf
  have hli := hW.li
  have h60 := hW.n60 lotB_1
  refine lv_iload_n X.1 X.2.1 dX5_feeFor_0 rfl (lv_at hl 2 rfl) ?_
  refine lv_aload_n X.1 X.2.1 dX5_feeFor_1 rfl (lv_at hl 0 rfl) ?_
  refine m_get (ci := 5) (C := RX5) (T := TX5) (N := 10) X hM inA5 (by decide) (dE_desk G _) rfl 9 (by decide) kl_X5_56 rfl rfl dX5_feeFor_2 ?_
  refine tn_ge (tgt := 26) X dX5_feeFor_5 (by decide) (by omega) (by omega) (fun h5 => ?_) (fun h5 => ?_)
  · refine tn_ic (v := 0) X dX5_feeFor_26 (by decide) ?_
    exact rI ⟨(if_pos (Or.inl h5)).symm, rfl⟩ X hM hS hret hlk dX5_feeFor_27
  · refine lv_aload_n X.1 X.2.1 dX5_feeFor_8 rfl (lv_at hl 0 rfl) ?_
    refine m_get (ci := 5) (C := RX5) (T := TX5) (N := 10) X hM inA5 (by decide) (dE_desk G _) rfl 0 (by decide) kl_X5_12 rfl rfl dX5_feeFor_9 ?_
    refine kNI (As := []) X hM hS hl.1 (c_X1_countOfPieces lotB_1) (by have := lotB.lt lotB_1; omega) (dE_lot lotB_1 G _) rfl rfl kl_X5_177 mf_X1_countOfPieces ⟨Nat.le_of_ble_eq_true rfl, Nat.le_of_ble_eq_true rfl⟩ ⟨Nat.zero_le _, Nat.zero_le _⟩ rfl (Nat.le_of_ble_eq_true rfl) dX5_feeFor_12 (fun r12 ν12 H locs hp12 hM hS => ?_)
    obtain ⟨rfl, e12⟩ := hp12
    replace e12 := e12.symm
    subst e12
    refine tn_eq0 (tgt := 26) X dX5_feeFor_15 (by decide) (by omega) (fun h15 => ?_) (fun h15 => ?_)
    · refine tn_ic (v := 0) X dX5_feeFor_26 (by decide) ?_
      exact rI ⟨(if_pos (Or.inr (Or.inl h15))).symm, rfl⟩ X hM hS hret hlk dX5_feeFor_27
    · refine lv_aload_n X.1 X.2.1 dX5_feeFor_18 rfl (lv_at hl 0 rfl) ?_
      refine lv_iload_n X.1 X.2.1 dX5_feeFor_19 rfl (lv_at hl 1 rfl) ?_
      refine kVI (As := [_]) X hM hS hl.1 (c_X5_hasFreight hW hs) (by decide) (dE_desk G _) rfl rfl kl_X5_272 mf_X5_hasFreight ⟨Nat.le_of_ble_eq_true rfl, Nat.le_of_ble_eq_true rfl⟩ ⟨Nat.zero_le _, Nat.zero_le _⟩ rfl (Nat.le_of_ble_eq_true rfl) dX5_feeFor_20 (fun r20 ν20 H locs hp20 hM hS => ?_)
      obtain ⟨rfl, e20⟩ := hp20
      replace e20 := e20.symm
      subst e20
      refine tn_eq0 (tgt := 28) X dX5_feeFor_23 (by decide) (by split <;> decide) (fun h23 => ?_) (fun h23 => ?_)
      · refine lv_aload_n X.1 X.2.1 dX5_feeFor_28 rfl (lv_at hl 0 rfl) ?_
        refine m_get (ci := 5) (C := RX5) (T := TX5) (N := 10) X hM inA5 (by decide) (dE_desk G _) rfl 8 (by decide) kl_X5_52 rfl rfl dX5_feeFor_29 ?_
        exact rI ⟨(if_neg (fun hh => hh.elim (fun z => by omega) (fun z => z.elim h15 (fun z => ite0 h23 z)))).symm, rfl⟩ X hM hS hret hlk dX5_feeFor_32
      · refine tn_ic (v := 0) X dX5_feeFor_26 (by decide) ?_
        exact rI ⟨(if_pos (Or.inr (Or.inr (ite1 h23)))).symm, rfl⟩ X hM hS hret hlk dX5_feeFor_27

set_option maxHeartbeats 4000000 in
set_option maxRecDepth 100000 in
theorem c_X5_usableForBasket {l : Launch} {G : dG} {ν : Mm} (hW : WD ν) : cI l yX5_usableForBasket cX5_usableForBasket 3 (some .int) 3 G [.ref (ra G 0)] ν (fun r ν' => r = ubF ν (ν 0 6) ∧ ν' = ν) := by
  refine cI_of (by decide +kernel) (Nat.le_of_ble_eq_true rfl) ?_
  intro p e s m args below meth c ls X hM hret hlk hl
  have hS : dS G s.heap s.heap [] := va_S.rf
  have hnc := hW.nc
  refine tn_ic (v := 0) X dX5_usableForBasket_0 (by decide) ?_
  refine lv_istore_n X.1 X.2.1 dX5_usableForBasket_1 rfl hl (by decide) rfl (fun ls hl => ?_)
  replace hl : lv_has ls 3 [(1, _), (0, _)] := hl
  refine tn_ic (v := 0) X dX5_usableForBasket_2 (by decide) ?_
  refine lv_istore_n X.1 X.2.1 dX5_usableForBasket_3 rfl hl (by decide) rfl (fun ls hl => ?_)
  replace hl : lv_has ls 3 [(2, _), (1, _), (0, _)] := hl
  have Lp : ∀ (k : Nat) (j : Nat), j + k = ν 0 6 → ∀ (ls : Array Slot) (H : Heap) (locs : List Loc), dM G ν H → dS G s.heap H locs → lv_has ls 3 [(0, .ref (ra G 0)), (1, .int (nI (ubF ν j))), (2, .int (nI j))] → W p l e (rmD 3) s m args below meth c H locs 0 0 (MQ below (dQi G s.heap.size (fun r ν' => r = ubF ν (ν 0 6) ∧ ν' = ν)) args s 0 0 (dA G s.heap.size)) (F0 m 4 ls []) := by
    intro k
    induction k with
    | zero =>
      intro j hj ls H locs hM hS hl
      refine lv_iload_n X.1 X.2.1 dX5_usableForBasket_4 rfl (lv_at hl 2 rfl) ?_
      refine lv_aload_n X.1 X.2.1 dX5_usableForBasket_5 rfl (lv_at hl 0 rfl) ?_
      refine m_get (ci := 5) (C := RX5) (T := TX5) (N := 10) X hM inA5 (by decide) (dE_desk G _) rfl 6 (by decide) kl_X5_46 rfl rfl dX5_usableForBasket_6 ?_
      refine tn_ge (tgt := 40) X dX5_usableForBasket_9 (by decide) (by omega) (by omega) (fun h9 => ?_) (fun h9 => ?_)
      · refine lv_iload_n X.1 X.2.1 dX5_usableForBasket_40 rfl (lv_at hl 1 rfl) ?_
        exact rI ⟨by rw [show ν 0 6 = j by omega], rfl⟩ X hM hS hret hlk dX5_usableForBasket_41
      · exfalso; omega
    | succ k ih =>
      intro j hj ls H locs hM hS hl
      refine lv_iload_n X.1 X.2.1 dX5_usableForBasket_4 rfl (lv_at hl 2 rfl) ?_
      refine lv_aload_n X.1 X.2.1 dX5_usableForBasket_5 rfl (lv_at hl 0 rfl) ?_
      refine m_get (ci := 5) (C := RX5) (T := TX5) (N := 10) X hM inA5 (by decide) (dE_desk G _) rfl 6 (by decide) kl_X5_46 rfl rfl dX5_usableForBasket_6 ?_
      refine tn_ge (tgt := 40) X dX5_usableForBasket_9 (by decide) (by omega) (by omega) (fun h9 => ?_) (fun h9 => ?_)
      · exfalso; omega
      · refine lv_aload_n X.1 X.2.1 dX5_usableForBasket_12 rfl (lv_at hl 0 rfl) ?_
        refine m_get (ci := 5) (C := RX5) (T := TX5) (N := 10) X hM inA5 (by decide) (dE_desk G _) rfl 1 (by decide) kl_X5_18 rfl rfl dX5_usableForBasket_13 ?_
        refine lv_iload_n X.1 X.2.1 dX5_usableForBasket_16 rfl (lv_at hl 2 rfl) ?_
        refine m_aald 1 rfl X hM (by decide) (dE_coupons G _) rfl (show j < 8 by omega) (by decide) dX5_usableForBasket_17 ?_
        refine lv_aload_n X.1 X.2.1 dX5_usableForBasket_18 rfl (lv_at hl 0 rfl) ?_
        refine m_get (ci := 5) (C := RX5) (T := TX5) (N := 10) X hM inA5 (by decide) (dE_desk G _) rfl 0 (by decide) kl_X5_12 rfl rfl dX5_usableForBasket_19 ?_
        refine kNI (As := [_]) X hM hS hl.1 (c_X0_isUsableFor (show j < 8 by omega) lotB_1 (hW.cs (show j < 8 by omega)) (hW.cC lotB_1) (hW.pb2 lotB_1 _) (hW.mn (show j < 8 by omega)) (hW.us (show j < 8 by omega))) (by omega) (dE_cou (show j < 8 by omega) G _) rfl rfl kl_X5_128 mf_X0_isUsableFor ⟨Nat.le_of_ble_eq_true rfl, Nat.le_of_ble_eq_true rfl⟩ ⟨Nat.zero_le _, Nat.zero_le _⟩ rfl (Nat.le_of_ble_eq_true rfl) dX5_usableForBasket_22 (fun r22 ν22 H locs hp22 hM hS => ?_)
        obtain ⟨rfl, e22⟩ := hp22
        replace e22 := e22.symm
        subst e22
        refine tn_eq0 (tgt := 34) X dX5_usableForBasket_25 (by decide) (by split <;> decide) (fun h25 => ?_) (fun h25 => ?_)
        · refine tn_inc (k := 2) (w := 1) X dX5_usableForBasket_34 hl rfl (by decide) (by decide) rfl (fun ls hl => ?_)
          replace hl : lv_has ls 3 [(2, _), (0, _), (1, _)] := hl
          refine lv_goto (tgt := 4) X.1 X.2.1 dX5_usableForBasket_37 (by decide) ?_
          have e : ubF ν (j + 1) = _ := if_neg (ite0 h25)
          exact ih (j + 1) (by omega) ls H locs hM hS (by rw [e]; exact (lv_sub hl [1, 2, 0] rfl))
        · refine lv_iload_n X.1 X.2.1 dX5_usableForBasket_28 rfl (lv_at hl 1 rfl) ?_
          refine tn_ic (v := 1) X dX5_usableForBasket_29 (by decide) ?_
          refine lv_iload_n X.1 X.2.1 dX5_usableForBasket_30 rfl (lv_at hl 2 rfl) ?_
          refine tn_shl1 X dX5_usableForBasket_31 (by omega) ?_
          refine tn_or X dX5_usableForBasket_32 ?_
          refine lv_istore_n X.1 X.2.1 dX5_usableForBasket_33 rfl hl (by decide) rfl (fun ls hl => ?_)
          replace hl : lv_has ls 3 [(1, _), (0, _), (2, _)] := hl
          refine tn_inc (k := 2) (w := 1) X dX5_usableForBasket_34 hl rfl (by decide) (by decide) rfl (fun ls hl => ?_)
          replace hl : lv_has ls 3 [(2, _), (1, _), (0, _)] := hl
          refine lv_goto (tgt := 4) X.1 X.2.1 dX5_usableForBasket_37 (by decide) ?_
          have e : ubF ν (j + 1) = _ := if_pos (ite1 h25)
          exact ih (j + 1) (by omega) ls H locs hM hS (by rw [e]; exact (lv_sub hl [2, 1, 0] rfl))
  exact Lp (ν 0 6) 0 (by omega) ls _ _ hM hS (lv_sub hl [2, 1, 0] rfl)

set_option maxHeartbeats 4000000 in
set_option maxRecDepth 100000 in
theorem c_X5_stillReached {l : Launch} {G : dG} {ν : Mm} {q : Nat} (hW : WD ν) (hq : q < 12) : cI l yX5_stillReached cX5_stillReached 4 (some .int) 2 G [.ref (ra G 0), .ref (ra G (30 + 5 * q))] ν (fun r ν' => r = srF ν q (ν 0 6) ∧ ν' = ν) := by
  refine cI_of (by decide +kernel) (Nat.le_of_ble_eq_true rfl) ?_
  intro p e s m args below meth c ls X hM hret hlk hl
  have hS : dS G s.heap s.heap [] := va_S.rf
  have hnc := hW.nc
  refine tn_ic (v := 0) X dX5_stillReached_0 (by decide) ?_
  refine lv_istore_n X.1 X.2.1 dX5_stillReached_1 rfl hl (by decide) rfl (fun ls hl => ?_)
  replace hl : lv_has ls 4 [(2, _), (0, _), (1, _)] := hl
  refine tn_ic (v := 0) X dX5_stillReached_2 (by decide) ?_
  refine lv_istore_n X.1 X.2.1 dX5_stillReached_3 rfl hl (by decide) rfl (fun ls hl => ?_)
  replace hl : lv_has ls 4 [(3, _), (2, _), (0, _), (1, _)] := hl
  have Lp : ∀ (k : Nat) (j : Nat), j + k = ν 0 6 → ∀ (ls : Array Slot) (H : Heap) (locs : List Loc), dM G ν H → dS G s.heap H locs → lv_has ls 4 [(0, .ref (ra G 0)), (1, .ref (ra G (30 + 5 * q))), (2, .int (nI (srF ν q j))), (3, .int (nI j))] → W p l e (rmD 2) s m args below meth c H locs 0 0 (MQ below (dQi G s.heap.size (fun r ν' => r = srF ν q (ν 0 6) ∧ ν' = ν)) args s 0 0 (dA G s.heap.size)) (F0 m 4 ls []) := by
    intro k
    induction k with
    | zero =>
      intro j hj ls H locs hM hS hl
      refine lv_iload_n X.1 X.2.1 dX5_stillReached_4 rfl (lv_at hl 3 rfl) ?_
      refine lv_aload_n X.1 X.2.1 dX5_stillReached_5 rfl (lv_at hl 0 rfl) ?_
      refine m_get (ci := 5) (C := RX5) (T := TX5) (N := 10) X hM inA5 (by decide) (dE_desk G _) rfl 6 (by decide) kl_X5_46 rfl rfl dX5_stillReached_6 ?_
      refine tn_ge (tgt := 51) X dX5_stillReached_9 (by decide) (by omega) (by omega) (fun h9 => ?_) (fun h9 => ?_)
      · refine lv_iload_n X.1 X.2.1 dX5_stillReached_51 rfl (lv_at hl 2 rfl) ?_
        exact rI ⟨by rw [show ν 0 6 = j by omega], rfl⟩ X hM hS hret hlk dX5_stillReached_52
      · exfalso; omega
    | succ k ih =>
      intro j hj ls H locs hM hS hl
      refine lv_iload_n X.1 X.2.1 dX5_stillReached_4 rfl (lv_at hl 3 rfl) ?_
      refine lv_aload_n X.1 X.2.1 dX5_stillReached_5 rfl (lv_at hl 0 rfl) ?_
      refine m_get (ci := 5) (C := RX5) (T := TX5) (N := 10) X hM inA5 (by decide) (dE_desk G _) rfl 6 (by decide) kl_X5_46 rfl rfl dX5_stillReached_6 ?_
      refine tn_ge (tgt := 51) X dX5_stillReached_9 (by decide) (by omega) (by omega) (fun h9 => ?_) (fun h9 => ?_)
      · exfalso; omega
      · refine lv_aload_n X.1 X.2.1 dX5_stillReached_12 rfl (lv_at hl 1 rfl) ?_
        refine m_getN (ci := 2) (C := RX2) (T := TX2) (N := 4) X hM inA2 (by omega) (dE_ord hq G _) rfl 1 (by decide) kl_X5_206 rfl rfl dX5_stillReached_13 ?_
        refine lv_iload_n X.1 X.2.1 dX5_stillReached_16 rfl (lv_at hl 3 rfl) ?_
        refine kSI (As := [_, _]) X hM hS hl.1 (c_X5_contains (hW.ac hq) (by omega)) kl_X5_249 mf_X5_contains ⟨Nat.le_of_ble_eq_true rfl, Nat.le_of_ble_eq_true rfl⟩ ⟨Nat.zero_le _, Nat.zero_le _⟩ rfl (Nat.le_of_ble_eq_true rfl) dX5_stillReached_17 (fun r17 ν17 H locs hp17 hM hS => ?_)
        obtain ⟨rfl, e17⟩ := hp17
        replace e17 := e17.symm
        subst e17
        refine tn_eq0 (tgt := 45) X dX5_stillReached_20 (by decide) (by have := bt_le (ν (30 + 5 * q) 1) j; omega) (fun h20 => ?_) (fun h20 => ?_)
        · refine tn_inc (k := 3) (w := 1) X dX5_stillReached_45 hl rfl (by decide) (by decide) rfl (fun ls hl => ?_)
          replace hl : lv_has ls 4 [(3, _), (0, _), (1, _), (2, _)] := hl
          refine lv_goto (tgt := 4) X.1 X.2.1 dX5_stillReached_48 (by decide) ?_
          have e : srF ν q (j + 1) = _ := if_neg (fun hh => by have := hh.1; omega)
          exact ih (j + 1) (by omega) ls H locs hM hS (by rw [e]; exact (lv_sub hl [1, 2, 3, 0] rfl))
        · refine lv_aload_n X.1 X.2.1 dX5_stillReached_23 rfl (lv_at hl 0 rfl) ?_
          refine m_get (ci := 5) (C := RX5) (T := TX5) (N := 10) X hM inA5 (by decide) (dE_desk G _) rfl 1 (by decide) kl_X5_18 rfl rfl dX5_stillReached_24 ?_
          refine lv_iload_n X.1 X.2.1 dX5_stillReached_27 rfl (lv_at hl 3 rfl) ?_
          refine m_aald 1 rfl X hM (by decide) (dE_coupons G _) rfl (show j < 8 by omega) (by decide) dX5_stillReached_28 ?_
          refine lv_aload_n X.1 X.2.1 dX5_stillReached_29 rfl (lv_at hl 1 rfl) ?_
          refine m_getN (ci := 2) (C := RX2) (T := TX2) (N := 4) X hM inA2 (by omega) (dE_ord hq G _) rfl 0 (by decide) kl_X5_197 rfl rfl dX5_stillReached_30 ?_
          refine kNI (As := [_]) X hM hS hl.1 (c_X0_isReachedBy (show j < 8 by omega) (lotB_o hq) (hW.cs (show j < 8 by omega)) (hW.cC (lotB_o hq)) (hW.pb2 (lotB_o hq) _) (hW.mn (show j < 8 by omega))) (by omega) (dE_cou (show j < 8 by omega) G _) rfl rfl kl_X5_258 mf_X0_isReachedBy ⟨Nat.le_of_ble_eq_true rfl, Nat.le_of_ble_eq_true rfl⟩ ⟨Nat.zero_le _, Nat.zero_le _⟩ rfl (Nat.le_of_ble_eq_true rfl) dX5_stillReached_33 (fun r33 ν33 H locs hp33 hM hS => ?_)
          obtain ⟨rfl, e33⟩ := hp33
          replace e33 := e33.symm
          subst e33
          refine tn_eq0 (tgt := 45) X dX5_stillReached_36 (by decide) (by split <;> decide) (fun h36 => ?_) (fun h36 => ?_)
          · refine tn_inc (k := 3) (w := 1) X dX5_stillReached_45 hl rfl (by decide) (by decide) rfl (fun ls hl => ?_)
            replace hl : lv_has ls 4 [(3, _), (0, _), (1, _), (2, _)] := hl
            refine lv_goto (tgt := 4) X.1 X.2.1 dX5_stillReached_48 (by decide) ?_
            have e : srF ν q (j + 1) = _ := if_neg (fun hh => ite0 h36 hh.2)
            exact ih (j + 1) (by omega) ls H locs hM hS (by rw [e]; exact (lv_sub hl [1, 2, 3, 0] rfl))
          · refine lv_iload_n X.1 X.2.1 dX5_stillReached_39 rfl (lv_at hl 2 rfl) ?_
            refine tn_ic (v := 1) X dX5_stillReached_40 (by decide) ?_
            refine lv_iload_n X.1 X.2.1 dX5_stillReached_41 rfl (lv_at hl 3 rfl) ?_
            refine tn_shl1 X dX5_stillReached_42 (by omega) ?_
            refine tn_or X dX5_stillReached_43 ?_
            refine lv_istore_n X.1 X.2.1 dX5_stillReached_44 rfl hl (by decide) rfl (fun ls hl => ?_)
            replace hl : lv_has ls 4 [(2, _), (0, _), (1, _), (3, _)] := hl
            refine tn_inc (k := 3) (w := 1) X dX5_stillReached_45 hl rfl (by decide) (by decide) rfl (fun ls hl => ?_)
            replace hl : lv_has ls 4 [(3, _), (2, _), (0, _), (1, _)] := hl
            refine lv_goto (tgt := 4) X.1 X.2.1 dX5_stillReached_48 (by decide) ?_
            have e : srF ν q (j + 1) = _ := if_pos ⟨by have := bt_le (ν (30 + 5 * q) 1) j; omega, ite1 h36⟩
            exact ih (j + 1) (by omega) ls H locs hM hS (by rw [e]; exact (lv_sub hl [2, 3, 1, 0] rfl))
  exact Lp (ν 0 6) 0 (by omega) ls _ _ hM hS (lv_sub hl [2, 3, 1, 0] rfl)

set_option maxHeartbeats 4000000 in
set_option maxRecDepth 100000 in
theorem c_X5_useUp {l : Launch} {G : dG} {ν : Mm} {st : Nat} (hW : WD ν) (hs : st < 2 ^ 31) (hu : ∀ k, k < ν 0 6 → bt st k = 1 → 0 < ν (22 + k) 5) : cV l yX5_useUp cX5_useUp 3 1 G [.ref (ra G 0), .int (nI st)] ν (fun ν' => ν' = uuM ν st (ν 0 6)) := by
  refine cV_of (by decide +kernel) (Nat.le_of_ble_eq_true rfl) ?_
  intro p e s m args below meth c ls X hM hret hlk hl
  have hS : dS G s.heap s.heap [] := va_S.rf
  have hnc := hW.nc
  refine tn_ic (v := 0) X dX5_useUp_0 (by decide) ?_
  refine lv_istore_n X.1 X.2.1 dX5_useUp_1 rfl hl (by decide) rfl (fun ls hl => ?_)
  replace hl : lv_has ls 3 [(2, _), (0, _), (1, _)] := hl
  have Lp : ∀ (k : Nat) (j : Nat), j + k = ν 0 6 → ∀ (ls : Array Slot) (H : Heap) (locs : List Loc), dM G (uuM ν st j) H → dS G s.heap H locs → lv_has ls 3 [(0, .ref (ra G 0)), (1, .int (nI st)), (2, .int (nI j))] → W p l e (rmD 1) s m args below meth c H locs 0 0 (MQ below (dQv G s.heap.size (fun ν' => ν' = uuM ν st (ν 0 6))) args s 0 0 (dA G s.heap.size)) (F0 m 2 ls []) := by
    intro k
    induction k with
    | zero =>
      intro j hj ls H locs hM hS hl
      have e0 : uuM ν st j 0 6 = ν 0 6 := by rw [uuM_off ν st j 0 (by omega)]
      have ec : uuM ν st j (22 + j) = ν (22 + j) := uuM_ge ν st j j (Nat.le_refl _)
      refine lv_iload_n X.1 X.2.1 dX5_useUp_2 rfl (lv_at hl 2 rfl) ?_
      refine lv_aload_n X.1 X.2.1 dX5_useUp_3 rfl (lv_at hl 0 rfl) ?_
      refine m_get (ci := 5) (C := RX5) (T := TX5) (N := 10) X hM inA5 (by decide) (dE_desk G _) rfl 6 (by decide) kl_X5_46 rfl rfl dX5_useUp_4 ?_
      refine tn_ge (tgt := 39) X dX5_useUp_7 (by decide) (by omega) (by omega) (fun h7 => ?_) (fun h7 => ?_)
      · exact rV (by rw [show ν 0 6 = j by omega]) X hM hS hret hlk dX5_useUp_39
      · exfalso; omega
    | succ k ih =>
      intro j hj ls H locs hM hS hl
      have e0 : uuM ν st j 0 6 = ν 0 6 := by rw [uuM_off ν st j 0 (by omega)]
      have ec : uuM ν st j (22 + j) = ν (22 + j) := uuM_ge ν st j j (Nat.le_refl _)
      refine lv_iload_n X.1 X.2.1 dX5_useUp_2 rfl (lv_at hl 2 rfl) ?_
      refine lv_aload_n X.1 X.2.1 dX5_useUp_3 rfl (lv_at hl 0 rfl) ?_
      refine m_get (ci := 5) (C := RX5) (T := TX5) (N := 10) X hM inA5 (by decide) (dE_desk G _) rfl 6 (by decide) kl_X5_46 rfl rfl dX5_useUp_4 ?_
      refine tn_ge (tgt := 39) X dX5_useUp_7 (by decide) (by omega) (by omega) (fun h7 => ?_) (fun h7 => ?_)
      · exfalso; omega
      · refine lv_iload_n X.1 X.2.1 dX5_useUp_10 rfl (lv_at hl 1 rfl) ?_
        refine lv_iload_n X.1 X.2.1 dX5_useUp_11 rfl (lv_at hl 2 rfl) ?_
        refine kSI (As := [_, _]) X hM hS hl.1 (c_X5_contains hs (by omega)) kl_X5_249 mf_X5_contains ⟨Nat.le_of_ble_eq_true rfl, Nat.le_of_ble_eq_true rfl⟩ ⟨Nat.zero_le _, Nat.zero_le _⟩ rfl (Nat.le_of_ble_eq_true rfl) dX5_useUp_12 (fun r12 ν12 H locs hp12 hM hS => ?_)
        obtain ⟨rfl, e12⟩ := hp12
        replace e12 := e12.symm
        subst e12
        refine tn_eq0 (tgt := 33) X dX5_useUp_15 (by decide) (by have := bt_le st j; omega) (fun h15 => ?_) (fun h15 => ?_)
        · refine tn_inc (k := 2) (w := 1) X dX5_useUp_33 hl rfl (by decide) (by decide) rfl (fun ls hl => ?_)
          replace hl : lv_has ls 3 [(2, _), (0, _), (1, _)] := hl
          refine lv_goto (tgt := 2) X.1 X.2.1 dX5_useUp_36 (by decide) ?_
          have e : uuM ν st (j + 1) = _ := if_neg (by omega)
          exact ih (j + 1) (by omega) ls H locs (by rw [e]; exact hM) hS (lv_sub hl [1, 2, 0] rfl)
        · have hb1 : bt st j = 1 := by have := bt_le st j; omega
          refine lv_aload_n X.1 X.2.1 dX5_useUp_18 rfl (lv_at hl 0 rfl) ?_
          refine m_get (ci := 5) (C := RX5) (T := TX5) (N := 10) X hM inA5 (by decide) (dE_desk G _) rfl 1 (by decide) kl_X5_18 rfl rfl dX5_useUp_19 ?_
          refine lv_iload_n X.1 X.2.1 dX5_useUp_22 rfl (lv_at hl 2 rfl) ?_
          refine m_aald 1 rfl X hM (by decide) (dE_coupons G _) rfl (by omega) (by decide) dX5_useUp_23 ?_
          refine lv_dup X.1 X.2.1 dX5_useUp_24 rfl ?_
          refine m_getN (ci := 0) (C := RX0) (T := TX0) (N := 6) X hM inA0 (by omega) (dE_cou (by omega) G _) rfl 5 (by decide) kl_X5_123 rfl rfl dX5_useUp_25 ?_
          refine tn_ic (v := 1) X dX5_useUp_28 (by decide) ?_
          refine tn_sub X dX5_useUp_29 (by rw [ec]; exact hu j (by omega) hb1) ?_
          refine m_putN (ci := 0) (C := RX0) (T := TX0) (N := 6) X hM hS inA0 tyX0_ok nmX0 (by omega) (dE_cou (by omega) G _) rfl 5 (by decide) kl_X5_123 rfl rfl (by decide +kernel) (Nat.le_of_ble_eq_true rfl) (dE_cou (by omega) G _) dX5_useUp_30 (fun H locs hM hS => ?_)
          refine tn_inc (k := 2) (w := 1) X dX5_useUp_33 hl rfl (by decide) (by decide) rfl (fun ls hl => ?_)
          replace hl : lv_has ls 3 [(2, _), (0, _), (1, _)] := hl
          refine lv_goto (tgt := 2) X.1 X.2.1 dX5_useUp_36 (by decide) ?_
          have e : uuM ν st (j + 1) = _ := if_pos hb1
          exact ih (j + 1) (by omega) ls H locs (by rw [e]; exact hM) hS (lv_sub hl [1, 2, 0] rfl)
  exact Lp (ν 0 6) 0 (by omega) ls _ _ hM hS (lv_sub hl [1, 2, 0] rfl)
end
section
/-! ===== rows that agree on the first n pieces; what transports along the desk's part; the search, in numbers ===== -/
theorem ms_congr {ct ct' f f' : Nat → Nat} {cs n : Nat} (hc : ∀ j, j < n → ct j = ct' j) (hf : ∀ j, j < n → f j = f' j) (i : Nat) (hi : i ≤ n) : ms ct cs f i = ms ct' cs f' i := by
  induction i with
  | zero => rfl
  | succ i ih => simp only [ms, ih (by omega), hc i (by omega), hf i (by omega)]
theorem us_congr {sh ct ct' f f' : Nat → Nat} {cs n : Nat} (hc : ∀ j, j < n → ct j = ct' j) (hf : ∀ j, j < n → f j = f' j) (i : Nat) (hi : i ≤ n) : us sh ct cs f i = us sh ct' cs f' i := by
  induction i with
  | zero => rfl
  | succ i ih => simp only [us, ih (by omega), hc i (by omega), hf i (by omega)]
theorem sm_congr {f f' : Nat → Nat} {n : Nat} (hf : ∀ j, j < n → f j = f' j) (i : Nat) (hi : i ≤ n) : sm f i = sm f' i := by
  induction i with
  | zero => rfl
  | succ i ih => simp only [sm, ih (by omega), hf i (by omega)]
theorem shF_congr {sh ct ct' f f' : Nat → Nat} {cs n : Nat} (hc : ∀ j, j < n → ct j = ct' j) (hf : ∀ j, j < n → f j = f' j) : ∀ j, j < n → shF sh n ct cs f j = shF sh n ct' cs f' j := by
  intro j hj
  simp only [shF, hc j hj, hf j hj]
theorem onS_congr {ct ct' : Nat → Nat} {cs n : Nat} {x x' : Nat × (Nat → Nat)} (hc : ∀ j, j < n → ct j = ct' j) (h1 : x.1 = x'.1) (h2 : ∀ j, j < n → x.2 j = x'.2 j) (i : Nat) (hi : i ≤ n) : (onS ct cs i x).1 = (onS ct' cs i x').1 ∧ ∀ j, j < n → (onS ct cs i x).2 j = (onS ct' cs i x').2 j := by
  induction i with
  | zero => exact ⟨h1, h2⟩
  | succ i ih =>
    obtain ⟨e1, e2⟩ := ih (by omega)
    simp only [onS, e1, e2 i (by omega), hc i (by omega)]
    split
    · refine ⟨rfl, fun j hj => ?_⟩
      by_cases e : j = i
      · subst e; simp [va_up]
      · simp only [va_up, e, if_false]; exact e2 j hj
    · exact ⟨e1, e2⟩
theorem insP_congr {f f' g : Nat → Nat} {x n r : Nat} (hf : ∀ j, j < n → f j = f' j) (hg : ∀ j, j < r → g j < n) : insP f g x r = insP f' g x r := by
  induction r with
  | zero => rfl
  | succ r ih => simp only [insP, ih (fun j hj => hg j (by omega)), hf _ (hg r (by omega))]
theorem rkS_congr {ct ct' f f' : Nat → Nat} {cs n : Nat} (hc : ∀ j, j < n → ct j = ct' j) (hf : ∀ j, j < n → f j = f' j) (i : Nat) (hi : i ≤ n) : rkS ct cs f i = rkS ct' cs f' i := by
  induction i with
  | zero => rfl
  | succ i ih =>
    have e := ih (by omega)
    have e3 : insP f (rkS ct cs f i).2 (f i) (rkS ct cs f i).1 = insP f' (rkS ct' cs f' i).2 (f' i) (rkS ct' cs f' i).1 := by
      rw [insP_congr hf (fun j hj => by have := rkS_lt ct cs f i j hj; omega), e, hf i (by omega)]
    rw [e] at e3
    simp only [rkS, hc i (by omega), e, e3]
theorem tbS_congr {v n r : Nat} {g : Nat → Nat} {x x' : Nat × (Nat → Nat)} (hg : ∀ j, j < r → g j < n) (h1 : x.1 = x'.1) (h2 : ∀ j, j < n → x.2 j = x'.2 j) : (tbS v g r x).1 = (tbS v g r x').1 ∧ ∀ j, j < n → (tbS v g r x).2 j = (tbS v g r x').2 j := by
  induction r with
  | zero => exact ⟨h1, h2⟩
  | succ r ih =>
    obtain ⟨e1, e2⟩ := ih (fun j hj => hg j (by omega))
    simp only [tbS, e1]
    split
    · refine ⟨rfl, fun j hj => ?_⟩
      by_cases e : j = g r
      · subst e; simp [va_up]
      · simp only [va_up, e, if_false]; exact e2 j hj
    · exact ⟨rfl, e2⟩
theorem apF_congr {ct ct' f f' : Nat → Nat} {kd cs v n : Nat} (hc : ∀ j, j < n → ct j = ct' j) (hf : ∀ j, j < n → f j = f' j) : ∀ j, j < n → apF n ct kd cs v f j = apF n ct' kd cs v f' j := by
  intro j hj
  unfold apF
  split
  · exact shF_congr hc hf j hj
  split
  · unfold taF
    have e := ms_congr (cs := cs) hc hf n (Nat.le_refl _)
    rw [e]
    split
    · exact hf j hj
    · have e2 := us_congr (sh := fun x => x * min (ms ct' cs f' n) v / ms ct' cs f' n) (cs := cs) hc hf n (Nat.le_refl _)
      rw [e2]
      exact (onS_congr (x := (min (ms ct' cs f' n) v - us (fun x => x * min (ms ct' cs f' n) v / ms ct' cs f' n) ct' cs f' n, shF (fun x => x * min (ms ct' cs f' n) v / ms ct' cs f' n) n ct cs f)) (x' := (min (ms ct' cs f' n) v - us (fun x => x * min (ms ct' cs f' n) v / ms ct' cs f' n) ct' cs f' n, shF (fun x => x * min (ms ct' cs f' n) v / ms ct' cs f' n) n ct' cs f')) hc rfl (fun j hj => shF_congr (sh := (fun x => x * min (ms ct' cs f' n) v / ms ct' cs f' n)) hc hf j hj) n (Nat.le_refl _)).2 j hj
  split
  · unfold tbF
    rw [rkS_congr hc hf n (Nat.le_refl _)]
    exact (tbS_congr (x := (0, f)) (x' := (0, f')) (fun j hj => rkS_lt ct' cs f' n j hj) rfl hf).2 j hj
  · exact hf j hj
theorem shF_le {sh ct : Nat → Nat} {cs n : Nat} {f : Nat → Nat} (j : Nat) : shF sh n ct cs f j ≤ f j := by
  unfold shF; split <;> omega
theorem apF_le {ct f : Nat → Nat} {kd cs v n : Nat} (j : Nat) : apF n ct kd cs v f j ≤ f j := by
  unfold apF
  split
  · exact shF_le j
  split
  · unfold taF
    split
    · exact Nat.le_refl _
    · refine Nat.le_trans ((onS_le n).2 j) ?_
      exact shF_le (sh := fun x => x * min (ms ct cs f n) v / ms ct cs f n) j
  split
  · exact tbS_le _ j
  · exact Nat.le_refl _
/-! along the desk's part -/
theorem gf_eq (ν : Mm) (k st : Nat) : gf ν k st = (decide (ν (22 + k) 4 = 0) || grF ν st (ν (22 + k) 4) (ν 0 6)) := rfl
theorem feF_eq (ν : Mm) (st g : Nat) : feF ν st g = if ν 0 9 ≤ g ∨ cnt ν 1 10 = 0 ∨ frF ν st (ν 0 6) = true then 0 else ν 0 8 := rfl
theorem al_eq (ν : Mm) (st : Nat) : al ν st = alF ν st (ν 0 6) := rfl
theorem pcA_succ (ν : Mm) (L a j : Nat) : pcA ν L (a + 1) j = if j < cnt ν L a then pcA ν L a j else a := rfl
theorem grF_succ (ν : Mm) (st g j : Nat) : grF ν st g (j + 1) = (grF ν st g j && !(decide (bt st j = 1) && decide (ν (22 + j) 4 = g))) := rfl
theorem frF_succ (ν : Mm) (st k : Nat) : frF ν st (k + 1) = (frF ν st k || (decide (bt st k = 1) && decide (ν (22 + k) 0 = 3))) := rfl
theorem ubF_succ (ν : Mm) (k : Nat) : ubF ν (k + 1) = if usab ν k then ubF ν k ||| 2 ^ k else ubF ν k := rfl
theorem alF_succ (ν : Mm) (st k : Nat) : alF ν st (k + 1) = (alF ν st k && (!decide (bt st k = 1) || (decide (usab ν k) && gf ν k (st &&& (2 ^ k - 1))))) := rfl
theorem dsk.pcA {ν μ : Mm} (h : dsk ν μ) {L : Nat} (hL : lotB L) (a : Nat) : pcA μ L a = pcA ν L a := by
  induction a with
  | zero => rfl
  | succ a ih =>
    funext j
    rw [pcA_succ, pcA_succ, h.cnt hL, ih]
theorem dsk.grF {ν μ : Mm} (h : dsk ν μ) (st g n : Nat) : grF μ st g n = grF ν st g n := by
  induction n with
  | zero => rfl
  | succ n ih => rw [grF_succ, grF_succ, ih, h.c]
theorem dsk.gf {ν μ : Mm} (h : dsk ν μ) (k st : Nat) : gf μ k st = gf ν k st := by
  rw [gf_eq, gf_eq, h.c, h.d, h.grF]
theorem dsk.frF {ν μ : Mm} (h : dsk ν μ) (st n : Nat) : frF μ st n = frF ν st n := by
  induction n with
  | zero => rfl
  | succ n ih => rw [frF_succ, frF_succ, ih, h.c]
theorem dsk.feF {ν μ : Mm} (h : dsk ν μ) (st g : Nat) : feF μ st g = feF ν st g := by
  rw [feF_eq, feF_eq, h.d, h.cnt lotB_1, h.frF]
theorem usab_eq (ν : Mm) (k : Nat) : usab ν k = (0 < ν (22 + k) 5 ∧ 0 < pin ν 1 (ν (22 + k) 2) 10 ∧ ν (22 + k) 3 ≤ pin ν 1 (ν (22 + k) 2) 10) := rfl
theorem dsk.usab {ν μ : Mm} (h : dsk ν μ) (k : Nat) : usab μ k = usab ν k := by
  rw [usab_eq, usab_eq, h.c, h.pin lotB_1]
theorem dsk.ubF {ν μ : Mm} (h : dsk ν μ) (n : Nat) : ubF μ n = ubF ν n := by
  induction n with
  | zero => rfl
  | succ n ih =>
    have e := h.usab n
    simp only [ubF_succ, ih, e]
theorem dsk.alF {ν μ : Mm} (h : dsk ν μ) (st n : Nat) : alF μ st n = alF ν st n := by
  induction n with
  | zero => rfl
  | succ n ih =>
    have e := h.usab n
    have e2 := h.gf n (st &&& (2 ^ n - 1))
    simp only [alF_succ, ih, e, e2]
theorem dsk.al {ν μ : Mm} (h : dsk ν μ) (st : Nat) : al μ st = al ν st := by
  rw [al_eq, al_eq, h.d, h.alF]
/-! a lot with a set of coupons -/
def ctL (ν : Mm) (L : Nat) : Nat → Nat := fun j => ν (L + 2) (pcA ν L 10 j)
def f0L (ν : Mm) (L : Nat) : Nat → Nat := fun j => ν (L + 1) (pcA ν L 10 j)
def apK (ν : Mm) (L k : Nat) (f : Nat → Nat) : Nat → Nat := apF (cnt ν L 10) (ctL ν L) (ν (22 + k) 0) (ν (22 + k) 2) (ν (22 + k) 1) f
def rsF (ν : Mm) (L st : Nat) : Nat → Nat → Nat
  | 0 => f0L ν L
  | k + 1 => if bt st k = 1 then apK ν L k (rsF ν L st k) else rsF ν L st k
def gdF (ν : Mm) (L st : Nat) : Nat := sm (rsF ν L st (ν 0 6)) (cnt ν L 10)
/-- the lot L lies on the tray -/
def TL (ν : Mm) (L : Nat) (μ : Mm) : Prop := μ 7 4 = cnt ν L 10 ∧ ∀ j, j < cnt ν L 10 → μ 8 j = pcA ν L 10 j ∧ μ 9 j = ctL ν L j
theorem f0_le {ν : Mm} (hW : WD ν) {L : Nat} (hL : lotB L) (j : Nat) : f0L ν L j ≤ 10000 := hW.c10 hL _ (pcA_lt ν L 10 (by decide) j)
theorem ct_lt {ν : Mm} (hW : WD ν) {L : Nat} (hL : lotB L) (j : Nat) : ctL ν L j < 32 := hW.cC hL _ (pcA_lt ν L 10 (by decide) j)
theorem rsF_le {ν : Mm} (hW : WD ν) {L : Nat} (hL : lotB L) (st k j : Nat) : rsF ν L st k j ≤ 10000 := by
  induction k with
  | zero => exact f0_le hW hL j
  | succ k ih =>
    simp only [rsF]
    split
    · exact Nat.le_trans (apF_le j) ih
    · exact ih
theorem gdF_le {ν : Mm} (hW : WD ν) {L : Nat} (hL : lotB L) (st : Nat) : gdF ν L st ≤ 600000 := by
  have h1 : gdF ν L st ≤ cnt ν L 10 * 10000 := sm_le (fun j _ => rsF_le hW hL st _ j)
  have h2 := hW.n60 hL
  omega
theorem feF_le {ν : Mm} (hW : WD ν) (st g : Nat) : feF ν st g ≤ 10000 := by
  unfold feF
  split
  · exact Nat.zero_le _
  · exact hW.fe
theorem apK_eq (ν : Mm) (L k : Nat) (f : Nat → Nat) : apK ν L k f = apF (cnt ν L 10) (ctL ν L) (ν (22 + k) 0) (ν (22 + k) 2) (ν (22 + k) 1) f := rfl
theorem rsF_succ (ν : Mm) (L st k : Nat) : rsF ν L st (k + 1) = if bt st k = 1 then apK ν L k (rsF ν L st k) else rsF ν L st k := rfl
theorem gdF_eq (ν : Mm) (L st : Nat) : gdF ν L st = sm (rsF ν L st (ν 0 6)) (cnt ν L 10) := rfl
theorem dsk.ctL {ν μ : Mm} (h : dsk ν μ) {L : Nat} (hL : lotB L) : ctL μ L = ctL ν L := by
  funext j
  show μ (L + 2) (_ : Nat) = ν (L + 2) _
  rw [h.l hL (by decide), h.pcA hL]
theorem dsk.f0L {ν μ : Mm} (h : dsk ν μ) {L : Nat} (hL : lotB L) : f0L μ L = f0L ν L := by
  funext j
  show μ (L + 1) (_ : Nat) = ν (L + 1) _
  rw [h.l hL (by decide), h.pcA hL]
theorem dsk.apK {ν μ : Mm} (h : dsk ν μ) {L : Nat} (hL : lotB L) (k : Nat) (f : Nat → Nat) : apK μ L k f = apK ν L k f := by
  rw [apK_eq, apK_eq, h.c, h.cnt hL, h.ctL hL]
theorem dsk.rsF {ν μ : Mm} (h : dsk ν μ) {L : Nat} (hL : lotB L) (st k : Nat) : rsF μ L st k = rsF ν L st k := by
  induction k with
  | zero => exact h.f0L hL
  | succ k ih => rw [rsF_succ, rsF_succ, ih, h.apK hL]
theorem dsk.gdF {ν μ : Mm} (h : dsk ν μ) {L : Nat} (hL : lotB L) (st : Nat) : gdF μ L st = gdF ν L st := by
  rw [gdF_eq, gdF_eq, h.d, h.cnt hL, h.rsF hL]
end
section
/-! ===== the search, in numbers ===== -/
/-- an offer: best set, least total, least total without those left out -/
def of3 (lo st pr : Nat) (S : Nat × Nat × Nat) : Nat × Nat × Nat :=
  (if better pr st S.2.1 S.1 then st else S.1, if better pr st S.2.1 S.1 then pr else S.2.1, if st &&& lo = 0 then min S.2.2 pr else S.2.2)
def itr {σ : Type} (F : Nat → σ → σ) (a : Nat) : Nat → σ → σ
  | 0, s => s
  | i + 1, s => F (a + i) (itr F a i s)
/-- the total of the set st over the rests f -/
def toF (ν : Mm) (st : Nat) (f : Nat → Nat) : Nat := sm f (cnt ν 1 10) + feF ν st (sm f (cnt ν 1 10))
def exF (ν : Mm) (lo us : Nat) : Nat → Nat → Nat → (Nat → Nat) → Nat × Nat × Nat → Nat × Nat × Nat
  | 0, st, _, f, S => of3 lo st (toF ν st f) S
  | fu + 1, st, nx, f, S => itr (fun k S => if bt us k = 1 ∧ gf ν k st = true then exF ν lo us fu (st ||| 2 ^ k) (k + 1) (apK ν 1 k f) S else S) nx (ν 0 6 - nx) (of3 lo st (toF ν st f) S)
/-- what the search holds -/
def s3 (μ : Mm) : Nat × Nat × Nat := (μ 21 2, μ 21 3, μ 21 4)
theorem offer_3 (ν : Mm) (st pr : Nat) : s3 (offerM ν st pr) = of3 (ν 21 0) st pr (s3 ν) := by
  unfold offerM of3 s3
  by_cases h : st &&& ν 21 0 = 0 <;> by_cases h2 : better pr st (ν 21 3) (ν 21 2)
  · simp only [if_pos h, if_pos h2]
    simp [up2_if]
  · simp only [if_pos h, if_neg h2]
    simp [up2_if]
  · simp only [if_neg h, if_pos h2]
    simp [up2_if]
  · simp only [if_neg h, if_neg h2]
theorem offer_off (ν : Mm) (st pr : Nat) : off1 21 ν (offerM ν st pr) := by
  intro a ha
  unfold offerM
  by_cases h : st &&& ν 21 0 = 0 <;> by_cases h2 : better pr st (ν 21 3) (ν 21 2)
  · simp only [if_pos h, if_pos h2]; rw [up2_ne ha, up2_ne ha, up2_ne ha]
  · simp only [if_pos h, if_neg h2]; rw [up2_ne ha]
  · simp only [if_neg h, if_pos h2]; rw [up2_ne ha, up2_ne ha]
  · simp only [if_neg h, if_neg h2]
theorem offer_01 (ν : Mm) (st pr : Nat) : offerM ν st pr 21 0 = ν 21 0 ∧ offerM ν st pr 21 1 = ν 21 1 := by
  unfold offerM
  by_cases h : st &&& ν 21 0 = 0 <;> by_cases h2 : better pr st (ν 21 3) (ν 21 2)
  · simp only [if_pos h, if_pos h2]; simp [up2_if]
  · simp only [if_pos h, if_neg h2]; simp [up2_if]
  · simp only [if_neg h, if_pos h2]; simp [up2_if]
  · simp only [if_neg h, if_neg h2]; simp
/-- the search's numbers are in their bounds -/
def sOK (μ : Mm) : Prop := μ 21 1 < 2 ^ 31 ∧ μ 21 2 < 256 ∧ μ 21 3 < 2 ^ 31 ∧ μ 21 4 < 2 ^ 31
theorem offer_OK {ν : Mm} {st pr : Nat} (h : sOK ν) (hs : st < 256) (hp : pr < 2 ^ 31) : sOK (offerM ν st pr) := by
  have e := offer_3 ν st pr
  have e2 := (offer_01 ν st pr).2
  obtain ⟨h1, h2, h3, h4⟩ := h
  unfold s3 of3 at e
  simp only [Prod.mk.injEq] at e
  obtain ⟨e3, e4, e5⟩ := e
  refine ⟨by rw [e2]; exact h1, ?_, ?_, ?_⟩
  · rw [e3]; split <;> omega
  · rw [e4]; split <;> omega
  · rw [e5]; split <;> omega
/-- what a call of extend at depth dp leaves -/
def exP (dp : Nat) (ν μ : Mm) : Prop := μ 21 0 = ν 21 0 ∧ μ 21 1 = ν 21 1 ∧ sOK μ ∧ ∀ i, i ≠ 21 → i ≠ 20 → (i ≤ 11 + dp ∨ 19 < i) → μ i = ν i
theorem exP.trans {dp : Nat} {ν μ κ : Mm} (h : exP dp ν μ) (h2 : exP dp μ κ) : exP dp ν κ :=
  ⟨h2.1.trans h.1, h2.2.1.trans h.2.1, h2.2.2.1, fun i a b c => (h2.2.2.2 i a b c).trans (h.2.2.2 i a b c)⟩
theorem exP.dsk {dp : Nat} {ν μ : Mm} (h : exP dp ν μ) : dsk ν μ := fun i hi => h.2.2.2 i (by omega) (by omega) (by omega)
theorem exP_offer {dp st pr : Nat} {ν : Mm} (h : sOK ν) (hs : st < 256) (hp : pr < 2 ^ 31) : exP dp ν (offerM ν st pr) :=
  ⟨(offer_01 ν st pr).1, (offer_01 ν st pr).2, offer_OK h hs hp, fun i a _ _ => offer_off ν st pr i a⟩
theorem sm_TL {σ κ : Mm} {f : Nat → Nat} {r : Nat} (hT : κ 7 4 = cnt σ 1 10) (hf : ∀ j, j < cnt σ 1 10 → κ (11 + r) j = f j) : sm (κ (11 + r)) (κ 7 4) = sm f (cnt σ 1 10) := by
  rw [hT]; exact sm_congr hf _ (Nat.le_refl _)
theorem or_lt {a k : Nat} (ha : a < 256) (hk : k < 8) : a ||| 2 ^ k < 256 := by
  have h2 : 2 ^ k < 2 ^ 8 := Nat.pow_lt_pow_right (by decide) hk
  exact Nat.or_lt_two_pow (n := 8) ha h2
/-- one step down: behind copyRow and apply -/
theorem ex_down {σ μ κ : Mm} {dp k : Nat} {f : Nat → Nat} (hσ : dsk σ μ) (hd : dp < 8) (hT : TL σ 1 μ) (hf : ∀ j, j < cnt σ 1 10 → μ (11 + dp) j = f j)
    (h1 : off2 20 (11 + (dp + 1)) (va_up μ (11 + (dp + 1)) (fun a => if a < μ 7 4 then μ (11 + dp) a else μ (11 + (dp + 1)) a)) κ)
    (h2 : κ (11 + (dp + 1)) = apF ((va_up μ (11 + (dp + 1)) (fun a => if a < μ 7 4 then μ (11 + dp) a else μ (11 + (dp + 1)) a)) 7 4) ((va_up μ (11 + (dp + 1)) (fun a => if a < μ 7 4 then μ (11 + dp) a else μ (11 + (dp + 1)) a)) 9) ((va_up μ (11 + (dp + 1)) (fun a => if a < μ 7 4 then μ (11 + dp) a else μ (11 + (dp + 1)) a)) (22 + k) 0) ((va_up μ (11 + (dp + 1)) (fun a => if a < μ 7 4 then μ (11 + dp) a else μ (11 + (dp + 1)) a)) (22 + k) 2) ((va_up μ (11 + (dp + 1)) (fun a => if a < μ 7 4 then μ (11 + dp) a else μ (11 + (dp + 1)) a)) (22 + k) 1) ((va_up μ (11 + (dp + 1)) (fun a => if a < μ 7 4 then μ (11 + dp) a else μ (11 + (dp + 1)) a)) (11 + (dp + 1)))) :
    (∀ i, i ≠ 20 → i ≠ 11 + (dp + 1) → κ i = μ i) ∧ dsk σ κ ∧ TL σ 1 κ ∧ ∀ j, j < cnt σ 1 10 → κ (11 + (dp + 1)) j = apK σ 1 k f j := by
  have ho : ∀ i, i ≠ 20 → i ≠ 11 + (dp + 1) → κ i = μ i := fun i a b => by rw [h1 i a b, va_up_ne _ _ b]
  refine ⟨ho, fun i hi => by rw [ho i (by omega) (by omega)]; exact hσ i hi, ⟨by rw [ho 7 (by omega) (by omega)]; exact hT.1, fun j hj => by rw [ho 8 (by omega) (by omega), ho 9 (by omega) (by omega)]; exact hT.2 j hj⟩, fun j hj => ?_⟩
  rw [h2, va_up_ne _ _ (show 7 ≠ 11 + (dp + 1) by omega), va_up_ne _ _ (show 9 ≠ 11 + (dp + 1) by omega), va_up_ne _ _ (show 22 + k ≠ 11 + (dp + 1) by omega), va_up_self, hσ.c k, hT.1]
  exact apF_congr (fun j hj => (hT.2 j hj).2) (fun j hj => by rw [if_pos hj]; exact hf j hj) j hj
end
section
/-! ===== CouponDesk: goods, the search ===== -/
set_option maxHeartbeats 4000000 in
set_option maxRecDepth 100000 in
theorem c_X5_layAndApply {l : Launch} {G : dG} {ν : Mm} {L st : Nat} (hW : WD ν) (hL : lotB L) (hs : st < 2 ^ 31) : cV l yX5_layAndApply cX5_layAndApply 4 4 G [.ref (ra G 0), .ref (ra G L), .int (nI st)] ν (fun ν' => dsk ν ν' ∧ ν' 21 = ν 21 ∧ TL ν L ν' ∧ ∀ j, j < cnt ν L 10 → ν' (11 + 0) j = rsF ν L st (ν 0 6) j) := by
  refine cV_of (by decide +kernel) (Nat.le_of_ble_eq_true rfl) ?_
  intro p e s m args below meth c ls X hM hret hlk hl
  have hS : dS G s.heap s.heap [] := va_S.rf
  have hnc := hW.nc
  have h60 := hW.n60 hL
  refine lv_aload_n X.1 X.2.1 dX5_layAndApply_0 rfl (lv_at hl 0 rfl) ?_
  refine m_get (ci := 5) (C := RX5) (T := TX5) (N := 10) X hM inA5 (by decide) (dE_desk G _) rfl 3 (by decide) kl_X5_31 rfl rfl dX5_layAndApply_1 ?_
  refine lv_aload_n X.1 X.2.1 dX5_layAndApply_4 rfl (lv_at hl 1 rfl) ?_
  refine kNV (As := [_]) X hM hS hl.1 (c_X4_lay hL (hW.c6 hL)) (by decide) (dE_tray G _) rfl rfl kl_X5_261 mf_X4_lay ⟨Nat.le_of_ble_eq_true rfl, Nat.le_of_ble_eq_true rfl⟩ ⟨Nat.zero_le _, Nat.zero_le _⟩ rfl (Nat.le_of_ble_eq_true rfl) dX5_layAndApply_5 (fun ν5 H locs hp5 hM hS => ?_)
  refine tn_ic (v := 0) X dX5_layAndApply_8 (by decide) ?_
  refine lv_istore_n X.1 X.2.1 dX5_layAndApply_9 rfl hl (by decide) rfl (fun ls hl => ?_)
  replace hl : lv_has ls 4 [(3, _), (0, _), (1, _), (2, _)] := hl
  have Lp : ∀ (k : Nat) (j : Nat) (μ : Mm), j + k = ν 0 6 → dsk ν μ → μ 21 = ν 21 → TL ν L μ → (∀ i, i < cnt ν L 10 → μ (11 + 0) i = rsF ν L st j i) → ∀ (ls : Array Slot) (H : Heap) (locs : List Loc), dM G μ H → dS G s.heap H locs → lv_has ls 4 [(0, .ref (ra G 0)), (2, .int (nI st)), (3, .int (nI j))] → W p l e (rmD 4) s m args below meth c H locs 0 0 (MQ below (dQv G s.heap.size (fun ν' => dsk ν ν' ∧ ν' 21 = ν 21 ∧ TL ν L ν' ∧ ∀ j, j < cnt ν L 10 → ν' (11 + 0) j = rsF ν L st (ν 0 6) j)) args s 0 0 (dA G s.heap.size)) (F0 m 10 ls []) := by
    intro k
    induction k with
    | zero =>
      intro j μ hj hds h21 hT hrow ls H locs hM hS hl
      have e0 : μ 0 6 = ν 0 6 := by rw [hds.d]
      have ec : μ (22 + j) = ν (22 + j) := hds.c j
      have e74 : μ 7 4 = cnt ν L 10 := hT.1
      refine lv_iload_n X.1 X.2.1 dX5_layAndApply_10 rfl (lv_at hl 2 rfl) ?_
      refine lv_aload_n X.1 X.2.1 dX5_layAndApply_11 rfl (lv_at hl 0 rfl) ?_
      refine m_get (ci := 5) (C := RX5) (T := TX5) (N := 10) X hM inA5 (by decide) (dE_desk G _) rfl 6 (by decide) kl_X5_46 rfl rfl dX5_layAndApply_12 ?_
      refine tn_ge (tgt := 46) X dX5_layAndApply_15 (by decide) (by omega) (by omega) (fun h15 => ?_) (fun h15 => ?_)
      · exact rV ⟨hds, h21, hT, by rw [show ν 0 6 = j by omega]; exact hrow⟩ X hM hS hret hlk dX5_layAndApply_46
      · exfalso; omega
    | succ k ih =>
      intro j μ hj hds h21 hT hrow ls H locs hM hS hl
      have e0 : μ 0 6 = ν 0 6 := by rw [hds.d]
      have ec : μ (22 + j) = ν (22 + j) := hds.c j
      have e74 : μ 7 4 = cnt ν L 10 := hT.1
      refine lv_iload_n X.1 X.2.1 dX5_layAndApply_10 rfl (lv_at hl 2 rfl) ?_
      refine lv_aload_n X.1 X.2.1 dX5_layAndApply_11 rfl (lv_at hl 0 rfl) ?_
      refine m_get (ci := 5) (C := RX5) (T := TX5) (N := 10) X hM inA5 (by decide) (dE_desk G _) rfl 6 (by decide) kl_X5_46 rfl rfl dX5_layAndApply_12 ?_
      refine tn_ge (tgt := 46) X dX5_layAndApply_15 (by decide) (by omega) (by omega) (fun h15 => ?_) (fun h15 => ?_)
      · exfalso; omega
      · refine lv_iload_n X.1 X.2.1 dX5_layAndApply_18 rfl (lv_at hl 1 rfl) ?_
        refine lv_iload_n X.1 X.2.1 dX5_layAndApply_19 rfl (lv_at hl 2 rfl) ?_
        refine kSI (As := [_, _]) X hM hS hl.1 (c_X5_contains hs (by omega)) kl_X5_249 mf_X5_contains ⟨Nat.le_of_ble_eq_true rfl, Nat.le_of_ble_eq_true rfl⟩ ⟨Nat.zero_le _, Nat.zero_le _⟩ rfl (Nat.le_of_ble_eq_true rfl) dX5_layAndApply_20 (fun r20 ν20 H locs hp20 hM hS => ?_)
        obtain ⟨rfl, e20⟩ := hp20
        replace e20 := e20.symm
        subst e20
        refine tn_eq0 (tgt := 40) X dX5_layAndApply_23 (by decide) (by have := bt_le st j; omega) (fun h23 => ?_) (fun h23 => ?_)
        · refine tn_inc (k := 2) (w := 1) X dX5_layAndApply_40 hl rfl (by decide) (by decide) rfl (fun ls hl => ?_)
          replace hl : lv_has ls 4 [(3, _), (0, _), (2, _)] := hl
          refine lv_goto (tgt := 10) X.1 X.2.1 dX5_layAndApply_43 (by decide) ?_
          have e : rsF ν L st (j + 1) = _ := if_neg (by omega)
          exact ih (j + 1) μ (by omega) hds h21 hT (by rw [e]; exact hrow) ls H locs hM hS (lv_sub hl [1, 2, 0] rfl)
        · refine lv_aload_n X.1 X.2.1 dX5_layAndApply_26 rfl (lv_at hl 0 rfl) ?_
          refine m_get (ci := 5) (C := RX5) (T := TX5) (N := 10) X hM inA5 (by decide) (dE_desk G _) rfl 3 (by decide) kl_X5_31 rfl rfl dX5_layAndApply_27 ?_
          refine lv_aload_n X.1 X.2.1 dX5_layAndApply_30 rfl (lv_at hl 0 rfl) ?_
          refine m_get (ci := 5) (C := RX5) (T := TX5) (N := 10) X hM inA5 (by decide) (dE_desk G _) rfl 1 (by decide) kl_X5_18 rfl rfl dX5_layAndApply_31 ?_
          refine lv_iload_n X.1 X.2.1 dX5_layAndApply_34 rfl (lv_at hl 2 rfl) ?_
          refine m_aald 1 rfl X hM (by decide) (dE_coupons G _) rfl (show j < 8 by omega) (by decide) dX5_layAndApply_35 ?_
          refine tn_ic (v := 0) X dX5_layAndApply_36 (by decide) ?_
          refine kNV (As := [_, _]) X hM hS hl.1 (c_X4_apply (r := 0) (show j < 8 by omega) (by decide) (by rw [ec]; exact hW.cs (by omega)) (by rw [e74]; exact h60) (fun i hi => by rw [e74] at hi; rw [(hT.2 i hi).2]; exact ct_lt hW hL i) (by rw [ec]; exact hW.v1 (by omega)) (by rw [ec]; exact hW.v0 (by omega)) (by rw [ec]; exact hW.k0 (by omega)) (fun i hi => by rw [e74] at hi; rw [hrow i hi]; exact rsF_le hW hL st j i)) (by decide) (dE_tray G _) rfl rfl kl_X5_265 mf_X4_apply ⟨Nat.le_of_ble_eq_true rfl, Nat.le_of_ble_eq_true rfl⟩ ⟨Nat.zero_le _, Nat.zero_le _⟩ rfl (Nat.le_of_ble_eq_true rfl) dX5_layAndApply_37 (fun ν37 H locs hp37 hM hS => ?_)
          refine tn_inc (k := 2) (w := 1) X dX5_layAndApply_40 hl rfl (by decide) (by decide) rfl (fun ls hl => ?_)
          replace hl : lv_has ls 4 [(3, _), (0, _), (2, _)] := hl
          refine lv_goto (tgt := 10) X.1 X.2.1 dX5_layAndApply_43 (by decide) ?_
          have e : rsF ν L st (j + 1) = _ := if_pos (by have := bt_le st j; omega)
          obtain ⟨g1, g2⟩ := hp37
          refine ih (j + 1) ν37 (by omega) (hds.trans (fun i hi => g1 i (by omega) (by omega))) (by rw [g1 21 (by decide) (by decide)]; exact h21) ⟨by rw [g1 7 (by decide) (by decide)]; exact hT.1, fun i hi => by rw [g1 8 (by decide) (by decide), g1 9 (by decide) (by decide)]; exact hT.2 i hi⟩ (fun i hi => ?_) ls H locs hM hS (lv_sub hl [1, 2, 0] rfl)
          rw [e, g2, e74, ec]
          exact apF_congr (fun i hi => (hT.2 i hi).2) hrow i hi
  obtain ⟨g1, g2, g3, g4⟩ := hp5
  exact Lp (ν 0 6) 0 _ (by omega) (fun i hi => g3 i (by omega) (by omega) (by omega) (by omega)) (g3 21 (by decide) (by decide) (by decide) (by decide)) ⟨g1, fun i hi => ⟨(g4 i hi).1, (g4 i hi).2.1⟩⟩ (fun i hi => (g4 i hi).2.2) ls _ _ hM hS (lv_sub hl [1, 3, 0] rfl)

set_option maxHeartbeats 4000000 in
set_option maxRecDepth 100000 in
theorem c_X5_goodsOf {l : Launch} {G : dG} {ν : Mm} {L st : Nat} (hW : WD ν) (hL : lotB L) (hs : st < 2 ^ 31) : cI l yX5_goodsOf cX5_goodsOf 3 (some .int) 5 G [.ref (ra G 0), .ref (ra G L), .int (nI st)] ν (fun r ν' => r = gdF ν L st ∧ dsk ν ν' ∧ ν' 21 = ν 21 ∧ TL ν L ν' ∧ ∀ j, j < cnt ν L 10 → ν' (11 + 0) j = rsF ν L st (ν 0 6) j) := by
  refine cI_of (by decide +kernel) (Nat.le_of_ble_eq_true rfl) ?_
  intro p e s m args below meth c ls X hM hret hlk hl
  have hS : dS G s.heap s.heap [] := va_S.rf
  refine lv_aload_n X.1 X.2.1 dX5_goodsOf_0 rfl (lv_at hl 0 rfl) ?_
  refine lv_aload_n X.1 X.2.1 dX5_goodsOf_1 rfl (lv_at hl 1 rfl) ?_
  refine lv_iload_n X.1 X.2.1 dX5_goodsOf_2 rfl (lv_at hl 2 rfl) ?_
  refine kVV (As := [_, _]) X hM hS hl.1 (c_X5_layAndApply hW hL hs) (by decide) (dE_desk G _) rfl rfl kl_X5_158 mf_X5_layAndApply ⟨Nat.le_of_ble_eq_true rfl, Nat.le_of_ble_eq_true rfl⟩ ⟨Nat.zero_le _, Nat.zero_le _⟩ rfl (Nat.le_of_ble_eq_true rfl) dX5_goodsOf_3 (fun ν3 H locs hp3 hM hS => ?_)
  refine lv_aload_n X.1 X.2.1 dX5_goodsOf_6 rfl (lv_at hl 0 rfl) ?_
  refine m_get (ci := 5) (C := RX5) (T := TX5) (N := 10) X hM inA5 (by decide) (dE_desk G _) rfl 3 (by decide) kl_X5_31 rfl rfl dX5_goodsOf_7 ?_
  refine tn_ic (v := 0) X dX5_goodsOf_10 (by decide) ?_
  refine kNI (As := [_]) X hM hS hl.1 (c_X4_restsInRow (r := 0) (by decide) (by rw [hp3.2.2.1.1]; exact hW.n60 hL)) (by decide) (dE_tray G _) rfl rfl kl_X5_269 mf_X4_restsInRow ⟨Nat.le_of_ble_eq_true rfl, Nat.le_of_ble_eq_true rfl⟩ ⟨Nat.zero_le _, Nat.zero_le _⟩ rfl (Nat.le_of_ble_eq_true rfl) dX5_goodsOf_11 (fun r11 ν11 H locs hp11 hM hS => ?_)
  obtain ⟨rfl, e11⟩ := hp11
  replace e11 := e11.symm
  subst e11
  exact rI ⟨by rw [hp3.2.2.1.1]; exact sm_congr hp3.2.2.2 _ (Nat.le_refl _), hp3⟩ X hM hS hret hlk dX5_goodsOf_14

set_option maxHeartbeats 4000000 in
set_option maxRecDepth 100000 in
theorem c_X5_extend_0 {l : Launch} {G : dG} {σ ν : Mm} {f : Nat → Nat} {st nx dp : Nat} (hd : dp = 8) (hσ : dsk σ ν) (hW : WD σ) (hs : st < 256) (hnx : nx ≤ 8) (hO : sOK ν) (hT : TL σ 1 ν) (hrow : ∀ j, j < cnt σ 1 10 → ν (11 + dp) j = f j) (hf : ∀ j, j < cnt σ 1 10 → f j ≤ 10000) : cV l yX5_extend cX5_extend 6 5 G [.ref (ra G 0), .int (nI st), .int (nI nx), .int (nI dp)] ν (fun ν' => exP dp ν ν' ∧ s3 ν' = exF σ (ν 21 0) (ν 21 1) 0 st nx f (s3 ν)) := by
  refine cV_of (by decide +kernel) (Nat.le_of_ble_eq_true rfl) ?_
  intro p e s m args below meth c ls X hM hret hlk hl
  have hS : dS G s.heap s.heap [] := va_S.rf
  have hWν : WD ν := hσ.WD hW
  have h60 := hW.n60 lotB_1
  have hsm : sm (ν (11 + dp)) (ν 7 4) = sm f (cnt σ 1 10) := sm_TL hT.1 hrow
  have hsb : sm f (cnt σ 1 10) ≤ 600000 := Nat.le_trans (sm_le hf) (Nat.mul_le_mul_right 10000 h60)
  have hfe : feF ν st (sm f (cnt σ 1 10)) ≤ 10000 := feF_le hWν _ _
  have hto : toF σ st f = sm f (cnt σ 1 10) + feF ν st (sm f (cnt σ 1 10)) := by rw [hσ.feF]; rfl
  have hnc := hW.nc
  refine lv_aload_n X.1 X.2.1 dX5_extend_0 rfl (lv_at hl 0 rfl) ?_
  refine m_get (ci := 5) (C := RX5) (T := TX5) (N := 10) X hM inA5 (by decide) (dE_desk G _) rfl 3 (by decide) kl_X5_31 rfl rfl dX5_extend_1 ?_
  refine lv_iload_n X.1 X.2.1 dX5_extend_4 rfl (lv_at hl 3 rfl) ?_
  refine kNI (As := [_]) X hM hS hl.1 (c_X4_restsInRow (by omega) (by rw [hT.1]; exact h60)) (by decide) (dE_tray G _) rfl rfl kl_X5_269 mf_X4_restsInRow ⟨Nat.le_of_ble_eq_true rfl, Nat.le_of_ble_eq_true rfl⟩ ⟨Nat.zero_le _, Nat.zero_le _⟩ rfl (Nat.le_of_ble_eq_true rfl) dX5_extend_5 (fun r5 ν5 H locs hp5 hM hS => ?_)
  obtain ⟨rfl, e5⟩ := hp5
  replace e5 := e5.symm
  subst e5
  rw [hsm]
  refine lv_istore X.1 X.2.1 dX5_extend_8 hl (by decide) rfl (fun ls hl => ?_)
  replace hl : lv_has ls 6 [(4, _), (0, _), (1, _), (2, _), (3, _)] := hl
  refine lv_aload_n X.1 X.2.1 dX5_extend_10 rfl (lv_at hl 1 rfl) ?_
  refine m_get (ci := 5) (C := RX5) (T := TX5) (N := 10) X hM inA5 (by decide) (dE_desk G _) rfl 4 (by decide) kl_X5_38 rfl rfl dX5_extend_11 ?_
  refine lv_iload_n X.1 X.2.1 dX5_extend_14 rfl (lv_at hl 2 rfl) ?_
  refine lv_iload X.1 X.2.1 dX5_extend_15 (lv_at hl 0 rfl) ?_
  refine lv_aload_n X.1 X.2.1 dX5_extend_17 rfl (lv_at hl 1 rfl) ?_
  refine lv_iload_n X.1 X.2.1 dX5_extend_18 rfl (lv_at hl 2 rfl) ?_
  refine lv_iload X.1 X.2.1 dX5_extend_19 (lv_at hl 0 rfl) ?_
  refine kVI (As := [_, _]) X hM hS hl.1 (c_X5_feeFor hWν (by omega) (by omega)) (by decide) (dE_desk G _) rfl rfl kl_X5_155 mf_X5_feeFor ⟨Nat.le_of_ble_eq_true rfl, Nat.le_of_ble_eq_true rfl⟩ ⟨Nat.zero_le _, Nat.zero_le _⟩ rfl (Nat.le_of_ble_eq_true rfl) dX5_extend_21 (fun r21 ν21 H locs hp21 hM hS => ?_)
  obtain ⟨rfl, e21⟩ := hp21
  replace e21 := e21.symm
  subst e21
  refine tn_add X dX5_extend_24 ?_
  refine kNV (As := [_, _]) X hM hS hl.1 (c_X3_offer hs hO.2.1 (by omega) hO.2.2.1 hO.2.2.2) (by decide) (dE_search G _) rfl rfl kl_X5_289 mf_X3_offer ⟨Nat.le_of_ble_eq_true rfl, Nat.le_of_ble_eq_true rfl⟩ ⟨Nat.zero_le _, Nat.zero_le _⟩ rfl (Nat.le_of_ble_eq_true rfl) dX5_extend_25 (fun ν25 H locs hp25 hM hS => ?_)
  replace hp25 := hp25.symm
  subst hp25
  refine lv_iload_n X.1 X.2.1 dX5_extend_28 rfl (lv_at hl 4 rfl) ?_
  refine tn_bi (v := 8) X dX5_extend_29 (by decide) ?_
  refine tn_lt (tgt := 35) X dX5_extend_31 (by decide) (by omega) (by decide) (fun h31 => ?_) (fun h31 => ?_)
  · exfalso; omega
  · exact rV ⟨by rw [← hto]; exact exP_offer hO hs (by omega), by rw [offer_3, ← hto]; rfl⟩ X hM hS hret hlk dX5_extend_34

set_option maxHeartbeats 4000000 in
set_option maxRecDepth 100000 in
theorem c_X5_extend_s {l : Launch} {G : dG} {σ ν : Mm} {f : Nat → Nat} {fu st nx dp : Nat} (ihe : ∀ {ν : Mm} {f : Nat → Nat} {st nx dp : Nat}, dp + fu = 8 → dsk σ ν → WD σ → st < 256 → nx ≤ 8 → sOK ν → TL σ 1 ν → (∀ j, j < cnt σ 1 10 → ν (11 + dp) j = f j) → (∀ j, j < cnt σ 1 10 → f j ≤ 10000) → cV l yX5_extend cX5_extend 6 (5 + fu) G [.ref (ra G 0), .int (nI st), .int (nI nx), .int (nI dp)] ν (fun ν' => exP dp ν ν' ∧ s3 ν' = exF σ (ν 21 0) (ν 21 1) fu st nx f (s3 ν))) (hd : dp + (fu + 1) = 8) (hσ : dsk σ ν) (hW : WD σ) (hs : st < 256) (hnx : nx ≤ 8) (hO : sOK ν) (hT : TL σ 1 ν) (hrow : ∀ j, j < cnt σ 1 10 → ν (11 + dp) j = f j) (hf : ∀ j, j < cnt σ 1 10 → f j ≤ 10000) : cV l yX5_extend cX5_extend 6 (5 + (fu + 1)) G [.ref (ra G 0), .int (nI st), .int (nI nx), .int (nI dp)] ν (fun ν' => exP dp ν ν' ∧ s3 ν' = exF σ (ν 21 0) (ν 21 1) (fu + 1) st nx f (s3 ν)) := by
  refine cV_of (by decide +kernel) (Nat.le_of_ble_eq_true rfl) ?_
  intro p e s m args below meth c ls X hM hret hlk hl
  have hS : dS G s.heap s.heap [] := va_S.rf
  have hWν : WD ν := hσ.WD hW
  have h60 := hW.n60 lotB_1
  have hsm : sm (ν (11 + dp)) (ν 7 4) = sm f (cnt σ 1 10) := sm_TL hT.1 hrow
  have hsb : sm f (cnt σ 1 10) ≤ 600000 := Nat.le_trans (sm_le hf) (Nat.mul_le_mul_right 10000 h60)
  have hfe : feF ν st (sm f (cnt σ 1 10)) ≤ 10000 := feF_le hWν _ _
  have hto : toF σ st f = sm f (cnt σ 1 10) + feF ν st (sm f (cnt σ 1 10)) := by rw [hσ.feF]; rfl
  have hnc := hW.nc
  refine lv_aload_n X.1 X.2.1 dX5_extend_0 rfl (lv_at hl 0 rfl) ?_
  refine m_get (ci := 5) (C := RX5) (T := TX5) (N := 10) X hM inA5 (by decide) (dE_desk G _) rfl 3 (by decide) kl_X5_31 rfl rfl dX5_extend_1 ?_
  refine lv_iload_n X.1 X.2.1 dX5_extend_4 rfl (lv_at hl 3 rfl) ?_
  refine kNI (As := [_]) X hM hS hl.1 (c_X4_restsInRow (by omega) (by rw [hT.1]; exact h60)) (by decide) (dE_tray G _) rfl rfl kl_X5_269 mf_X4_restsInRow ⟨by show _ ≤ 5 + (fu + 1); omega, by show _ ≤ 40 * (5 + (fu + 1)); omega⟩ ⟨Nat.zero_le _, Nat.zero_le _⟩ rfl (Nat.le_of_ble_eq_true rfl) dX5_extend_5 (fun r5 ν5 H locs hp5 hM hS => ?_)
  obtain ⟨rfl, e5⟩ := hp5
  replace e5 := e5.symm
  subst e5
  rw [hsm]
  refine lv_istore X.1 X.2.1 dX5_extend_8 hl (by decide) rfl (fun ls hl => ?_)
  replace hl : lv_has ls 6 [(4, _), (0, _), (1, _), (2, _), (3, _)] := hl
  refine lv_aload_n X.1 X.2.1 dX5_extend_10 rfl (lv_at hl 1 rfl) ?_
  refine m_get (ci := 5) (C := RX5) (T := TX5) (N := 10) X hM inA5 (by decide) (dE_desk G _) rfl 4 (by decide) kl_X5_38 rfl rfl dX5_extend_11 ?_
  refine lv_iload_n X.1 X.2.1 dX5_extend_14 rfl (lv_at hl 2 rfl) ?_
  refine lv_iload X.1 X.2.1 dX5_extend_15 (lv_at hl 0 rfl) ?_
  refine lv_aload_n X.1 X.2.1 dX5_extend_17 rfl (lv_at hl 1 rfl) ?_
  refine lv_iload_n X.1 X.2.1 dX5_extend_18 rfl (lv_at hl 2 rfl) ?_
  refine lv_iload X.1 X.2.1 dX5_extend_19 (lv_at hl 0 rfl) ?_
  refine kVI (As := [_, _]) X hM hS hl.1 (c_X5_feeFor hWν (by omega) (by omega)) (by decide) (dE_desk G _) rfl rfl kl_X5_155 mf_X5_feeFor ⟨by show _ ≤ 5 + (fu + 1); omega, by show _ ≤ 40 * (5 + (fu + 1)); omega⟩ ⟨Nat.zero_le _, Nat.zero_le _⟩ rfl (Nat.le_of_ble_eq_true rfl) dX5_extend_21 (fun r21 ν21 H locs hp21 hM hS => ?_)
  obtain ⟨rfl, e21⟩ := hp21
  replace e21 := e21.symm
  subst e21
  refine tn_add X dX5_extend_24 ?_
  refine kNV (As := [_, _]) X hM hS hl.1 (c_X3_offer hs hO.2.1 (by omega) hO.2.2.1 hO.2.2.2) (by decide) (dE_search G _) rfl rfl kl_X5_289 mf_X3_offer ⟨by show _ ≤ 5 + (fu + 1); omega, by show _ ≤ 40 * (5 + (fu + 1)); omega⟩ ⟨Nat.zero_le _, Nat.zero_le _⟩ rfl (Nat.le_of_ble_eq_true rfl) dX5_extend_25 (fun ν25 H locs hp25 hM hS => ?_)
  replace hp25 := hp25.symm
  subst hp25
  refine lv_iload_n X.1 X.2.1 dX5_extend_28 rfl (lv_at hl 4 rfl) ?_
  refine tn_bi (v := 8) X dX5_extend_29 (by decide) ?_
  refine tn_lt (tgt := 35) X dX5_extend_31 (by decide) (by omega) (by decide) (fun h31 => ?_) (fun h31 => ?_)
  · refine lv_iload_n X.1 X.2.1 dX5_extend_35 rfl (lv_at hl 3 rfl) ?_
    refine lv_istore X.1 X.2.1 dX5_extend_36 hl (by decide) rfl (fun ls hl => ?_)
    replace hl : lv_has ls 6 [(5, _), (4, _), (0, _), (1, _), (2, _), (3, _)] := hl
    have hof := exP_offer (dp := dp) (st := st) (pr := sm f (cnt σ 1 10) + feF ν st (sm f (cnt σ 1 10))) hO hs (by omega)
    have Lp : ∀ (k : Nat) (i : Nat) (μ : Mm), i + k = σ 0 6 - nx → exP dp ν μ → s3 μ = itr (fun k S => if bt (ν 21 1) k = 1 ∧ gf σ k st = true then exF σ (ν 21 0) (ν 21 1) fu (st ||| 2 ^ k) (k + 1) (apK σ 1 k f) S else S) nx i (of3 (ν 21 0) st (toF σ st f) (s3 ν)) → ∀ (ls : Array Slot) (H : Heap) (locs : List Loc), dM G μ H → dS G s.heap H locs → lv_has ls 6 [(0, .ref (ra G 0)), (1, .int (nI st)), (3, .int (nI dp)), (5, .int (nI (nx + i)))] → W p l e (rmD (5 + (fu + 1))) s m args below meth c H locs 0 0 (MQ below (dQv G s.heap.size (fun ν' => exP dp ν ν' ∧ s3 ν' = exF σ (ν 21 0) (ν 21 1) (fu + 1) st nx f (s3 ν))) args s 0 0 (dA G s.heap.size)) (F0 m 38 ls []) := by
      intro k
      induction k with
      | zero =>
        intro i μ hi hex h3 ls H locs hM hS hl
        have hds : dsk σ μ := hσ.trans hex.dsk
        have e06 : μ 0 6 = σ 0 6 := by rw [hds.d]
        have hTμ : TL σ 1 μ := ⟨by rw [hex.2.2.2 7 (by decide) (by decide) (by omega)]; exact hT.1, fun j hj => by rw [hex.2.2.2 8 (by decide) (by decide) (by omega), hex.2.2.2 9 (by decide) (by decide) (by omega)]; exact hT.2 j hj⟩
        have hrμ : ∀ j, j < cnt σ 1 10 → μ (11 + dp) j = f j := fun j hj => by rw [hex.2.2.2 (11 + dp) (by omega) (by omega) (by omega)]; exact hrow j hj
        have h74 : μ 7 4 = cnt σ 1 10 := hTμ.1
        have hWμ : WD μ := hds.WD hW
        refine lv_iload X.1 X.2.1 dX5_extend_38 (lv_at hl 3 rfl) ?_
        refine lv_aload_n X.1 X.2.1 dX5_extend_40 rfl (lv_at hl 0 rfl) ?_
        refine m_get (ci := 5) (C := RX5) (T := TX5) (N := 10) X hM inA5 (by decide) (dE_desk G _) rfl 6 (by decide) kl_X5_46 rfl rfl dX5_extend_41 ?_
        refine tn_ge (tgt := 123) X dX5_extend_44 (by decide) (by omega) (by omega) (fun h44 => ?_) (fun h44 => ?_)
        · exact rV ⟨hex, by rw [h3, show i = σ 0 6 - nx by omega]; rfl⟩ X hM hS hret hlk dX5_extend_123
        · exfalso; omega
      | succ k ih =>
        intro i μ hi hex h3 ls H locs hM hS hl
        have hds : dsk σ μ := hσ.trans hex.dsk
        have e06 : μ 0 6 = σ 0 6 := by rw [hds.d]
        have hTμ : TL σ 1 μ := ⟨by rw [hex.2.2.2 7 (by decide) (by decide) (by omega)]; exact hT.1, fun j hj => by rw [hex.2.2.2 8 (by decide) (by decide) (by omega), hex.2.2.2 9 (by decide) (by decide) (by omega)]; exact hT.2 j hj⟩
        have hrμ : ∀ j, j < cnt σ 1 10 → μ (11 + dp) j = f j := fun j hj => by rw [hex.2.2.2 (11 + dp) (by omega) (by omega) (by omega)]; exact hrow j hj
        have h74 : μ 7 4 = cnt σ 1 10 := hTμ.1
        have hWμ : WD μ := hds.WD hW
        refine lv_iload X.1 X.2.1 dX5_extend_38 (lv_at hl 3 rfl) ?_
        refine lv_aload_n X.1 X.2.1 dX5_extend_40 rfl (lv_at hl 0 rfl) ?_
        refine m_get (ci := 5) (C := RX5) (T := TX5) (N := 10) X hM inA5 (by decide) (dE_desk G _) rfl 6 (by decide) kl_X5_46 rfl rfl dX5_extend_41 ?_
        refine tn_ge (tgt := 123) X dX5_extend_44 (by decide) (by omega) (by omega) (fun h44 => ?_) (fun h44 => ?_)
        · exfalso; omega
        · refine lv_aload_n X.1 X.2.1 dX5_extend_47 rfl (lv_at hl 0 rfl) ?_
          refine m_get (ci := 5) (C := RX5) (T := TX5) (N := 10) X hM inA5 (by decide) (dE_desk G _) rfl 4 (by decide) kl_X5_38 rfl rfl dX5_extend_48 ?_
          refine m_getN (ci := 3) (C := RX3) (T := TX3) (N := 5) X hM inA3 (by decide) (dE_search G _) rfl 1 (by decide) kl_X5_292 rfl rfl dX5_extend_51 ?_
          refine lv_iload X.1 X.2.1 dX5_extend_54 (lv_at hl 3 rfl) ?_
          refine kSI (As := [_, _]) X hM hS hl.1 (c_X5_contains hex.2.2.1.1 (by omega)) kl_X5_249 mf_X5_contains ⟨by show _ ≤ 5 + (fu + 1); omega, by show _ ≤ 40 * (5 + (fu + 1)); omega⟩ ⟨Nat.zero_le _, Nat.zero_le _⟩ rfl (Nat.le_of_ble_eq_true rfl) dX5_extend_56 (fun r56 ν56 H locs hp56 hM hS => ?_)
          obtain ⟨rfl, e56⟩ := hp56
          replace e56 := e56.symm
          subst e56
          refine tn_eq0 (tgt := 117) X dX5_extend_59 (by decide) (by have := bt_le (μ 21 1) (nx + i); omega) (fun h59 => ?_) (fun h59 => ?_)
          · refine tn_inc (k := 3) (w := 1) X dX5_extend_117 hl rfl (by decide) (by decide) rfl (fun ls hl => ?_)
            replace hl : lv_has ls 6 [(5, _), (0, _), (1, _), (3, _)] := hl
            refine lv_goto (tgt := 38) X.1 X.2.1 dX5_extend_120 (by decide) ?_
            have hne : ¬ (bt (ν 21 1) (nx + i) = 1 ∧ gf σ (nx + i) st = true) := fun hh => by have := hh.1; rw [← hex.2.1] at this; omega
            exact ih (i + 1) μ (by omega) hex (by rw [h3]; exact (if_neg hne).symm) ls H locs hM hS (lv_sub hl [1, 2, 3, 0] rfl)
          · refine lv_aload_n X.1 X.2.1 dX5_extend_62 rfl (lv_at hl 0 rfl) ?_
            refine lv_iload X.1 X.2.1 dX5_extend_63 (lv_at hl 3 rfl) ?_
            refine lv_iload_n X.1 X.2.1 dX5_extend_65 rfl (lv_at hl 1 rfl) ?_
            refine kVI (As := [_, _]) X hM hS hl.1 (c_X5_isGroupFree hWμ (by omega) (by omega)) (by decide) (dE_desk G _) rfl rfl kl_X5_252 mf_X5_isGroupFree ⟨by show _ ≤ 5 + (fu + 1); omega, by show _ ≤ 40 * (5 + (fu + 1)); omega⟩ ⟨Nat.zero_le _, Nat.zero_le _⟩ rfl (Nat.le_of_ble_eq_true rfl) dX5_extend_66 (fun r66 ν66 H locs hp66 hM hS => ?_)
            obtain ⟨rfl, e66⟩ := hp66
            replace e66 := e66.symm
            subst e66
            refine tn_eq0 (tgt := 117) X dX5_extend_69 (by decide) (by split <;> decide) (fun h69 => ?_) (fun h69 => ?_)
            · refine tn_inc (k := 3) (w := 1) X dX5_extend_117 hl rfl (by decide) (by decide) rfl (fun ls hl => ?_)
              replace hl : lv_has ls 6 [(5, _), (0, _), (1, _), (3, _)] := hl
              refine lv_goto (tgt := 38) X.1 X.2.1 dX5_extend_120 (by decide) ?_
              have hne : ¬ (bt (ν 21 1) (nx + i) = 1 ∧ gf σ (nx + i) st = true) := fun hh => ite0 h69 (by rw [hds.gf]; exact hh.2)
              exact ih (i + 1) μ (by omega) hex (by rw [h3]; exact (if_neg hne).symm) ls H locs hM hS (lv_sub hl [1, 2, 3, 0] rfl)
            · refine lv_aload_n X.1 X.2.1 dX5_extend_72 rfl (lv_at hl 0 rfl) ?_
              refine m_get (ci := 5) (C := RX5) (T := TX5) (N := 10) X hM inA5 (by decide) (dE_desk G _) rfl 3 (by decide) kl_X5_31 rfl rfl dX5_extend_73 ?_
              refine lv_iload_n X.1 X.2.1 dX5_extend_76 rfl (lv_at hl 2 rfl) ?_
              refine lv_iload_n X.1 X.2.1 dX5_extend_77 rfl (lv_at hl 2 rfl) ?_
              refine tn_ic (v := 1) X dX5_extend_78 (by decide) ?_
              refine tn_add X dX5_extend_79 ?_
              refine kNV (As := [_, _]) X hM hS hl.1 (c_X4_copyRow (by omega) (by omega) (by rw [h74]; exact h60)) (by decide) (dE_tray G _) rfl rfl kl_X5_295 mf_X4_copyRow ⟨by show _ ≤ 5 + (fu + 1); omega, by show _ ≤ 40 * (5 + (fu + 1)); omega⟩ ⟨Nat.zero_le _, Nat.zero_le _⟩ rfl (Nat.le_of_ble_eq_true rfl) dX5_extend_80 (fun ν80 H locs hp80 hM hS => ?_)
              replace hp80 := hp80.symm
              subst hp80
              have eC : (va_up μ (11 + (dp + 1)) (fun a => if a < μ 7 4 then μ (11 + dp) a else μ (11 + (dp + 1)) a)) (22 + (nx + i)) = σ (22 + (nx + i)) := by rw [va_up_ne _ _ (by omega)]; exact hds.c _
              have e7 : (va_up μ (11 + (dp + 1)) (fun a => if a < μ 7 4 then μ (11 + dp) a else μ (11 + (dp + 1)) a)) 7 = μ 7 := va_up_ne _ _ (by omega)
              have e9 : (va_up μ (11 + (dp + 1)) (fun a => if a < μ 7 4 then μ (11 + dp) a else μ (11 + (dp + 1)) a)) 9 = μ 9 := va_up_ne _ _ (by omega)
              have eR : (va_up μ (11 + (dp + 1)) (fun a => if a < μ 7 4 then μ (11 + dp) a else μ (11 + (dp + 1)) a)) (11 + (dp + 1)) = (fun a => if a < μ 7 4 then μ (11 + dp) a else μ (11 + (dp + 1)) a) := va_up_self _ _ _
              refine lv_aload_n X.1 X.2.1 dX5_extend_83 rfl (lv_at hl 0 rfl) ?_
              refine m_get (ci := 5) (C := RX5) (T := TX5) (N := 10) X hM inA5 (by decide) (dE_desk G _) rfl 3 (by decide) kl_X5_31 rfl rfl dX5_extend_84 ?_
              refine lv_aload_n X.1 X.2.1 dX5_extend_87 rfl (lv_at hl 0 rfl) ?_
              refine m_get (ci := 5) (C := RX5) (T := TX5) (N := 10) X hM inA5 (by decide) (dE_desk G _) rfl 1 (by decide) kl_X5_18 rfl rfl dX5_extend_88 ?_
              refine lv_iload X.1 X.2.1 dX5_extend_91 (lv_at hl 3 rfl) ?_
              refine m_aald 1 rfl X hM (by decide) (dE_coupons G _) rfl (show nx + i < 8 by omega) (by decide) dX5_extend_93 ?_
              refine lv_iload_n X.1 X.2.1 dX5_extend_94 rfl (lv_at hl 2 rfl) ?_
              refine tn_ic (v := 1) X dX5_extend_95 (by decide) ?_
              refine tn_add X dX5_extend_96 ?_
              refine kNV (As := [_, _]) X hM hS hl.1 (c_X4_apply (show nx + i < 8 by omega) (by omega) (by rw [eC]; exact hW.cs (by omega)) (by rw [e7, h74]; exact h60) (fun z hz => by rw [e7, h74] at hz; rw [e9, (hTμ.2 z hz).2]; exact ct_lt hW lotB_1 z) (by rw [eC]; exact hW.v1 (by omega)) (by rw [eC]; exact hW.v0 (by omega)) (by rw [eC]; exact hW.k0 (by omega)) (fun z hz => by rw [e7, h74] at hz; rw [eR]; show (if z < μ 7 4 then μ (11 + dp) z else μ (11 + (dp + 1)) z) ≤ 10000; rw [if_pos (by rw [h74]; exact hz), hrμ z hz]; exact hf z hz)) (by decide) (dE_tray G _) rfl rfl kl_X5_265 mf_X4_apply ⟨by show _ ≤ 5 + (fu + 1); omega, by show _ ≤ 40 * (5 + (fu + 1)); omega⟩ ⟨Nat.zero_le _, Nat.zero_le _⟩ rfl (Nat.le_of_ble_eq_true rfl) dX5_extend_97 (fun ν97 H locs hp97 hM hS => ?_)
              obtain ⟨ho, hdsκ, hTκ, hrκ⟩ := ex_down hds (by omega) hTμ hrμ hp97.1 hp97.2
              have e210 : ν97 21 0 = ν 21 0 := by rw [ho 21 (by decide) (by omega)]; exact hex.1
              have e211 : ν97 21 1 = ν 21 1 := by rw [ho 21 (by decide) (by omega)]; exact hex.2.1
              have e213 : s3 ν97 = s3 μ := by unfold s3; rw [ho 21 (by decide) (by omega)]
              have hOκ : sOK ν97 := by unfold sOK; rw [ho 21 (by decide) (by omega)]; exact hex.2.2.1
              refine lv_aload_n X.1 X.2.1 dX5_extend_100 rfl (lv_at hl 0 rfl) ?_
              refine lv_iload_n X.1 X.2.1 dX5_extend_101 rfl (lv_at hl 1 rfl) ?_
              refine tn_ic (v := 1) X dX5_extend_102 (by decide) ?_
              refine lv_iload X.1 X.2.1 dX5_extend_103 (lv_at hl 3 rfl) ?_
              refine tn_shl1 X dX5_extend_105 (by omega) ?_
              refine tn_or X dX5_extend_106 ?_
              refine lv_iload X.1 X.2.1 dX5_extend_107 (lv_at hl 3 rfl) ?_
              refine tn_ic (v := 1) X dX5_extend_109 (by decide) ?_
              refine tn_add X dX5_extend_110 ?_
              refine lv_iload_n X.1 X.2.1 dX5_extend_111 rfl (lv_at hl 2 rfl) ?_
              refine tn_ic (v := 1) X dX5_extend_112 (by decide) ?_
              refine tn_add X dX5_extend_113 ?_
              refine kSV (As := [_, _, _, _]) X hM hS hl.1 (ihe (f := apK σ 1 (nx + i) f) (by omega) hdsκ hW (or_lt hs (by omega)) (by omega) hOκ hTκ hrκ (fun z hz => Nat.le_trans (apF_le z) (hf z hz))) kl_X5_285 mf_X5_extend ⟨by show _ ≤ 5 + (fu + 1); omega, by show _ ≤ 40 * (5 + (fu + 1)); omega⟩ ⟨Nat.zero_le _, Nat.zero_le _⟩ rfl (Nat.le_of_ble_eq_true rfl) dX5_extend_114 (fun ν114 H locs hp114 hM hS => ?_)
              refine tn_inc (k := 3) (w := 1) X dX5_extend_117 hl rfl (by decide) (by decide) rfl (fun ls hl => ?_)
              replace hl : lv_has ls 6 [(5, _), (0, _), (1, _), (3, _)] := hl
              refine lv_goto (tgt := 38) X.1 X.2.1 dX5_extend_120 (by decide) ?_
              have hye : bt (ν 21 1) (nx + i) = 1 ∧ gf σ (nx + i) st = true := ⟨by have := bt_le (μ 21 1) (nx + i); rw [← hex.2.1]; omega, by rw [← hds.gf]; exact ite1 h69⟩
              obtain ⟨q1, q2⟩ := hp114
              refine ih (i + 1) ν114 (by omega) (hex.trans ⟨?_, ?_, q1.2.2.1, fun z a b c => ?_⟩) ?_ ls H locs hM hS (lv_sub hl [1, 2, 3, 0] rfl)
              · rw [q1.1, ho 21 (by decide) (by omega)]
              · rw [q1.2.1, ho 21 (by decide) (by omega)]
              · rw [q1.2.2.2 z a b (by omega)]; exact ho z b (by omega)
              · rw [q2, e210, e211, e213, h3]; exact (if_pos hye).symm
    exact Lp (σ 0 6 - nx) 0 _ (by omega) hof (by rw [offer_3, ← hto]; rfl) ls _ _ hM hS (lv_sub hl [2, 3, 5, 0] rfl)
  · exfalso; omega

theorem c_X5_extend {l : Launch} {G : dG} {σ : Mm} (fu : Nat) : ∀ {ν : Mm} {f : Nat → Nat} {st nx dp : Nat}, dp + fu = 8 → dsk σ ν → WD σ → st < 256 → nx ≤ 8 → sOK ν → TL σ 1 ν → (∀ j, j < cnt σ 1 10 → ν (11 + dp) j = f j) → (∀ j, j < cnt σ 1 10 → f j ≤ 10000) → cV l yX5_extend cX5_extend 6 (5 + fu) G [.ref (ra G 0), .int (nI st), .int (nI nx), .int (nI dp)] ν (fun ν' => exP dp ν ν' ∧ s3 ν' = exF σ (ν 21 0) (ν 21 1) fu st nx f (s3 ν)) := by
  induction fu with
  | zero =>
    intro ν f st nx dp hd hσ hW hs hnx hO hT hrow hf
    exact c_X5_extend_0 hd hσ hW hs hnx hO hT hrow hf
  | succ fu ih =>
    intro ν f st nx dp hd hσ hW hs hnx hO hT hrow hf
    exact c_X5_extend_s ih hd hσ hW hs hnx hO hT hrow hf
end
section
/-! ===== the calls of the face, in numbers ===== -/
/-- cell by cell -/
def cOK (i : Nat) (r : Nat → Nat) : Prop :=
  (i = 0 → r 5 ≤ 10 ∧ r 6 ≤ 8 ∧ r 7 ≤ 12 ∧ r 8 ≤ 10000 ∧ r 9 ≤ 1000000) ∧
  (∀ L, lotB L → (i = L + 1 → ∀ a, a < 10 → r a ≤ 10000) ∧ (i = L + 2 → ∀ a, a < 10 → r a ≤ 7) ∧ (i = L + 3 → ∀ a, a < 10 → r a ≤ 6)) ∧
  (∀ k, k < 8 → i = 22 + k → r 0 ≤ 3 ∧ r 1 ≤ 100000 ∧ (r 0 = 0 → r 1 ≤ 100) ∧ r 2 ≤ 255 ∧ r 3 ≤ 1000000 ∧ r 4 ≤ 3 ∧ r 5 ≤ 9) ∧
  (∀ k, k < 12 → i = 30 + 5 * k → r 1 < 256 ∧ r 2 ≤ 10000 ∧ r 3 ≤ 600000)
theorem WD_cells {ν : Mm} : WD ν ↔ ∀ i, cOK i (ν i) := by
  constructor
  · intro h i
    refine ⟨fun e => by subst e; exact h.2.2.2, fun L hL => ⟨fun e a ha => by subst e; exact (h.1 L hL a ha).1, fun e a ha => by subst e; exact (h.1 L hL a ha).2.1, fun e a ha => by subst e; exact (h.1 L hL a ha).2.2⟩, fun k hk e => by subst e; exact h.2.1 k hk, fun k hk e => by subst e; exact h.2.2.1 k hk⟩
  · intro h
    exact ⟨fun L hL a ha => ⟨((h (L + 1)).2.1 L hL).1 rfl a ha, ((h (L + 2)).2.1 L hL).2.1 rfl a ha, ((h (L + 3)).2.1 L hL).2.2 rfl a ha⟩, fun k hk => (h (22 + k)).2.2.1 k hk rfl, fun k hk => (h (30 + 5 * k)).2.2.2 k hk rfl, (h 0).1 rfl⟩
theorem WD.upC {ν : Mm} {i : Nat} {r : Nat → Nat} (h : WD ν) (hc : cOK i r) : WD (va_up ν i r) := WD_cells.mpr fun j => by
  by_cases e : j = i
  · subst e; rw [va_up_self]; exact hc
  · rw [va_up_ne _ _ e]; exact WD_cells.mp h j
theorem lotB_1m {L : Nat} (h : lotB L) : L = 1 ∨ (31 ≤ L ∧ L ≤ 86 ∧ L % 5 = 1) := by
  rcases h with e | ⟨k, hk, e⟩
  · exact Or.inl e
  · exact Or.inr ⟨by omega, by omega, by omega⟩
theorem cOK_p {L : Nat} {r : Nat → Nat} (hL : lotB L) (h : ∀ a, a < 10 → r a ≤ 10000) : cOK (L + 1) r := by
  have h1 := lotB_1m hL
  refine ⟨fun e => by omega, fun K hK => ?_, fun k hk e => by omega, fun k hk e => by omega⟩
  have h2 := lotB_1m hK
  exact ⟨fun _ => h, fun e => by omega, fun e => by omega⟩
theorem cOK_c {L : Nat} {r : Nat → Nat} (hL : lotB L) (h : ∀ a, a < 10 → r a ≤ 7) : cOK (L + 2) r := by
  have h1 := lotB_1m hL
  refine ⟨fun e => by omega, fun K hK => ?_, fun k hk e => by omega, fun k hk e => by omega⟩
  have h2 := lotB_1m hK
  exact ⟨fun e => by omega, fun _ => h, fun e => by omega⟩
theorem cOK_n {L : Nat} {r : Nat → Nat} (hL : lotB L) (h : ∀ a, a < 10 → r a ≤ 6) : cOK (L + 3) r := by
  have h1 := lotB_1m hL
  refine ⟨fun e => by omega, fun K hK => ?_, fun k hk e => by omega, fun k hk e => by omega⟩
  have h2 := lotB_1m hK
  exact ⟨fun e => by omega, fun e => by omega, fun _ => h⟩
theorem cOK_d {r : Nat → Nat} (h : r 5 ≤ 10 ∧ r 6 ≤ 8 ∧ r 7 ≤ 12 ∧ r 8 ≤ 10000 ∧ r 9 ≤ 1000000) : cOK 0 r :=
  ⟨fun _ => h, fun K hK => by have h2 := lotB_1m hK; exact ⟨fun e => by omega, fun e => by omega, fun e => by omega⟩, fun k hk e => by omega, fun k hk e => by omega⟩
theorem cOK_k {q : Nat} {r : Nat → Nat} (hq : q < 8) (h : r 0 ≤ 3 ∧ r 1 ≤ 100000 ∧ (r 0 = 0 → r 1 ≤ 100) ∧ r 2 ≤ 255 ∧ r 3 ≤ 1000000 ∧ r 4 ≤ 3 ∧ r 5 ≤ 9) : cOK (22 + q) r :=
  ⟨fun e => by omega, fun K hK => by have h2 := lotB_1m hK; exact ⟨fun e => by omega, fun e => by omega, fun e => by omega⟩, fun k hk e => h, fun k hk e => by omega⟩
theorem cOK_o {q : Nat} {r : Nat → Nat} (hq : q < 12) (h : r 1 < 256 ∧ r 2 ≤ 10000 ∧ r 3 ≤ 600000) : cOK (30 + 5 * q) r :=
  ⟨fun e => by omega, fun K hK => by have h2 := lotB_1m hK; exact ⟨fun e => by omega, fun e => by omega, fun e => by omega⟩, fun k hk e => by omega, fun k hk e => h⟩
theorem va_up_le {f : Nat → Nat} {j v B a : Nat} (hv : v ≤ B) (hf : f a ≤ B) : va_up f j v a ≤ B := by
  by_cases e : a = j
  · subst e; rw [va_up_self]; exact hv
  · rw [va_up_ne _ _ e]; exact hf
theorem WD.upN {ν : Mm} {L a v : Nat} (h : WD ν) (hL : lotB L) (hv : v ≤ 6) : WD (up2 ν (L + 3) a v) := h.upC (cOK_n hL fun b hb => va_up_le hv (h.c6 hL b hb))
theorem WD.upP {ν : Mm} {L a v : Nat} (h : WD ν) (hL : lotB L) (hv : v ≤ 10000) : WD (up2 ν (L + 1) a v) := h.upC (cOK_p hL fun b hb => va_up_le hv (h.c10 hL b hb))
theorem WD.upK {ν : Mm} {L a v : Nat} (h : WD ν) (hL : lotB L) (hv : v ≤ 7) : WD (up2 ν (L + 2) a v) := h.upC (cOK_c hL fun b hb => va_up_le hv (h.1 L hL b hb).2.1)
theorem WD.upA {ν : Mm} {q v : Nat} (h : WD ν) (hq : q < 12) (hv : v < 256) : WD (up2 ν (30 + 5 * q) 1 v) := h.upC (cOK_o hq (by
  have := h.2.2.1 q hq
  simp [va_up]; exact ⟨hv, this.2.1, this.2.2⟩))
theorem WD.upF {ν : Mm} {q v : Nat} (h : WD ν) (hq : q < 12) (hv : v ≤ 10000) : WD (up2 ν (30 + 5 * q) 2 v) := h.upC (cOK_o hq (by
  have := h.2.2.1 q hq
  simp [va_up]; exact ⟨this.1, hv, this.2.2⟩))
theorem WD.upG {ν : Mm} {q v : Nat} (h : WD ν) (hq : q < 12) (hv : v ≤ 600000) : WD (up2 ν (30 + 5 * q) 3 v) := h.upC (cOK_o hq (by
  have := h.2.2.1 q hq
  simp [va_up]; exact ⟨this.1, this.2.1, hv⟩))
theorem WD.cp {ν : Mm} {K L : Nat} (h : WD ν) (hK : lotB K) (hL : lotB L) : WD (cpLot ν K L) := by
  have h1 : WD (cp10 ν (K + 1) (L + 1)) := h.upC (cOK_p hL fun a ha => by rw [if_pos ha]; exact h.c10 hK a ha)
  have h2 : WD (cp10 (cp10 ν (K + 1) (L + 1)) (K + 2) (L + 2)) := h1.upC (cOK_c hL fun a ha => by rw [if_pos ha]; exact (h1.1 K hK a ha).2.1)
  exact h2.upC (cOK_n hL fun a ha => by rw [if_pos ha]; exact (h2.1 K hK a ha).2.2)
theorem WD.uu {ν : Mm} {st c : Nat} (h : WD ν) (hc : c ≤ 8) : WD (uuM ν st c) := by
  induction c with
  | zero => exact h
  | succ c ih =>
    have h1 := ih (by omega)
    simp only [uuM]
    split
    · refine h1.upC (cOK_k (by omega) ?_)
      have := h1.2.1 c (by omega)
      unfold couOK at this
      simp [va_up]
      omega
    · exact h1
theorem WD.clr {ν : Mm} {L : Nat} (h : WD ν) (hL : lotB L) : WD (va_up ν (L + 3) (fun a => if a < 10 then 0 else ν (L + 3) a)) := h.upC (cOK_n hL fun a ha => by rw [if_pos ha]; exact Nat.zero_le _)
/-! the desk's part under writes -/
theorem dsk.up {ν μ : Mm} (h : dsk ν μ) (i j v : Nat) : dsk (up2 ν i j v) (up2 μ i j v) := fun a ha => by
  by_cases e : a = i
  · subst e; rw [up2_row, up2_row, h a ha]
  · rw [up2_ne e, up2_ne e]; exact h a ha
theorem dsk.upR {ν μ : Mm} (h : dsk ν μ) (i : Nat) {r r' : Nat → Nat} (hr : (i < 7 ∨ 21 < i) → r = r') : dsk (va_up ν i r) (va_up μ i r') := fun a ha => by
  by_cases e : a = i
  · subst e; rw [va_up_self, va_up_self, hr ha]
  · rw [va_up_ne _ _ e, va_up_ne _ _ e]; exact h a ha
theorem dsk.cp {ν μ : Mm} (h : dsk ν μ) {K L : Nat} (hK : lotB K) (hL : lotB L) : dsk (cpLot ν K L) (cpLot μ K L) := by
  have step : ∀ {ν μ : Mm} {c : Nat}, dsk ν μ → c ≤ 3 → dsk (cp10 ν (K + c) (L + c)) (cp10 μ (K + c) (L + c)) := by
    intro ν μ c h hc
    exact h.upR _ (fun _ => by rw [h.l hK hc, h.l hL hc])
  exact step (step (step h (by decide)) (by decide)) (by decide)
theorem dsk.uu {ν μ : Mm} (h : dsk ν μ) (st c : Nat) : dsk (uuM ν st c) (uuM μ st c) := by
  induction c with
  | zero => exact h
  | succ c ih =>
    simp only [uuM]
    split
    · rw [ih.c]; exact ih.up _ _ _
    · exact ih
/-- behind buy -/
def buyM (ν : Mm) (st : Nat) : Mm :=
  let q := ν 0 7
  let ν1 := up2 (up2 (up2 (cpLot ν 1 (31 + 5 * q)) (30 + 5 * q) 1 st) (30 + 5 * q) 2 (feF ν st (gdF ν 1 st))) (30 + 5 * q) 3 (gdF ν 1 st)
  let ν2 := uuM (up2 ν1 0 7 (q + 1)) st (ν 0 6)
  va_up ν2 4 (fun a => if a < 10 then 0 else ν2 4 a)
/-- behind giveBack: the counts, then the acting ones, then what is paid -/
def gb1 (ν : Mm) (o a n : Nat) : Mm := up2 ν (31 + 5 * o + 3) a (ν (31 + 5 * o + 3) a - n)
def gb2 (ν : Mm) (o a n : Nat) : Mm := up2 (gb1 ν o a n) (30 + 5 * o) 1 (srF (gb1 ν o a n) o (ν 0 6))
def gbG (ν : Mm) (o a n : Nat) : Nat := gdF (gb2 ν o a n) (31 + 5 * o) (srF (gb1 ν o a n) o (ν 0 6))
def gbM (ν : Mm) (o a n : Nat) : Mm := if ν (30 + 5 * o) 3 ≤ gbG ν o a n then gb2 ν o a n else up2 (gb2 ν o a n) (30 + 5 * o) 3 (gbG ν o a n)
def gbR (ν : Mm) (o a n : Nat) : Nat := if ν (30 + 5 * o) 3 ≤ gbG ν o a n then 0 else ν (30 + 5 * o) 3 - gbG ν o a n
theorem ubF_lt {ν : Mm} (c : Nat) : ubF ν c < 2 ^ c := by
  induction c with
  | zero => exact Nat.zero_lt_one
  | succ c ih =>
    have h2 : (2 : Nat) ^ c < 2 ^ (c + 1) := Nat.pow_lt_pow_right (by decide) (Nat.lt_succ_self c)
    simp only [ubF]
    split
    · exact Nat.or_lt_two_pow (Nat.lt_trans ih h2) h2
    · omega
theorem srF_lt {ν : Mm} {q : Nat} (c : Nat) : srF ν q c < 2 ^ c := by
  induction c with
  | zero => exact Nat.zero_lt_one
  | succ c ih =>
    have h2 : (2 : Nat) ^ c < 2 ^ (c + 1) := Nat.pow_lt_pow_right (by decide) (Nat.lt_succ_self c)
    simp only [srF]
    split
    · exact Nat.or_lt_two_pow (Nat.lt_trans ih h2) h2
    · omega
theorem pow8 {c : Nat} (h : c ≤ 8) : 2 ^ c ≤ 256 := Nat.pow_le_pow_right (by decide) h
abbrev vk (kd v : Nat) : Prop := (kd = 0 ∧ 1 ≤ v ∧ v ≤ 100) ∨ (kd = 1 ∧ 1 ≤ v ∧ v ≤ 100000) ∨ (kd = 2 ∧ 2 ≤ v ∧ v ≤ 9) ∨ (kd = 3 ∧ v = 0)
/-- the search's answer: best set, least total, least total without lo -/
def srch (ν : Mm) (lo : Nat) : Nat × Nat × Nat := exF ν lo (ubF ν (ν 0 6)) 8 0 0 (f0L ν 1) (0, 610001, 610001)
end
section
/-! ===== CouponDesk: calls of the face ===== -/
set_option maxHeartbeats 4000000 in
set_option maxRecDepth 100000 in
theorem c_X5_needArticle {l : Launch} {G : dG} {ν : Mm} {a : Nat} (hW : WD ν) (ha : a < ν 0 5) : cV l yX5_needArticle cX5_needArticle 2 0 G [.ref (ra G 0), .int (nI a)] ν (fun ν' => ν' = ν) := by
  refine cV_of (by decide +kernel) (Nat.le_of_ble_eq_true rfl) ?_
  intro p e s m args below meth c ls X hM hret hlk hl
  have hS : dS G s.heap s.heap [] := va_S.rf
  have := hW.na
  refine lv_iload_n X.1 X.2.1 dX5_needArticle_0 rfl (lv_at hl 1 rfl) ?_
  refine tn_lt0 (tgt := 12) X dX5_needArticle_1 (by decide) (by omega) ?_
  refine lv_iload_n X.1 X.2.1 dX5_needArticle_4 rfl (lv_at hl 1 rfl) ?_
  refine lv_aload_n X.1 X.2.1 dX5_needArticle_5 rfl (lv_at hl 0 rfl) ?_
  refine m_get (ci := 5) (C := RX5) (T := TX5) (N := 10) X hM inA5 (by decide) (dE_desk G _) rfl 5 (by decide) kl_X5_42 rfl rfl dX5_needArticle_6 ?_
  refine tn_lt (tgt := 22) X dX5_needArticle_9 (by decide) (by omega) (by omega) (fun h9 => ?_) (fun h9 => ?_)
  · exact rV rfl X hM hS hret hlk dX5_needArticle_22
  · exfalso; omega

set_option maxHeartbeats 4000000 in
set_option maxRecDepth 100000 in
theorem c_X5_needOrder {l : Launch} {G : dG} {ν : Mm} {a : Nat} (hW : WD ν) (ha : a < ν 0 7) : cV l yX5_needOrder cX5_needOrder 2 0 G [.ref (ra G 0), .int (nI a)] ν (fun ν' => ν' = ν) := by
  refine cV_of (by decide +kernel) (Nat.le_of_ble_eq_true rfl) ?_
  intro p e s m args below meth c ls X hM hret hlk hl
  have hS : dS G s.heap s.heap [] := va_S.rf
  have := hW.no
  refine lv_iload_n X.1 X.2.1 dX5_needOrder_0 rfl (lv_at hl 1 rfl) ?_
  refine tn_lt0 (tgt := 12) X dX5_needOrder_1 (by decide) (by omega) ?_
  refine lv_iload_n X.1 X.2.1 dX5_needOrder_4 rfl (lv_at hl 1 rfl) ?_
  refine lv_aload_n X.1 X.2.1 dX5_needOrder_5 rfl (lv_at hl 0 rfl) ?_
  refine m_get (ci := 5) (C := RX5) (T := TX5) (N := 10) X hM inA5 (by decide) (dE_desk G _) rfl 7 (by decide) kl_X5_49 rfl rfl dX5_needOrder_6 ?_
  refine tn_lt (tgt := 22) X dX5_needOrder_9 (by decide) (by omega) (by omega) (fun h9 => ?_) (fun h9 => ?_)
  · exact rV rfl X hM hS hret hlk dX5_needOrder_22
  · exfalso; omega

set_option maxHeartbeats 4000000 in
set_option maxRecDepth 100000 in
theorem c_X5_needPrice {l : Launch} {G : dG} {ν : Mm} {a : Nat} (h1 : 1 ≤ a) (h2 : a ≤ 10000) : cV l yX5_needPrice cX5_needPrice 1 0 G [.int (nI a)] ν (fun ν' => ν' = ν) := by
  refine cV_of (by decide +kernel) (Nat.le_of_ble_eq_true rfl) ?_
  intro p e s m args below meth c ls X hM hret hlk hl
  have hS : dS G s.heap s.heap [] := va_S.rf
  refine lv_iload_n X.1 X.2.1 dX5_needPrice_0 rfl (lv_at hl 0 rfl) ?_
  refine tn_ic (v := 1) X dX5_needPrice_1 (by decide) ?_
  refine tn_lt (tgt := 12) X dX5_needPrice_2 (by decide) (by omega) (by omega) (fun h2 => ?_) (fun h2 => ?_)
  · exfalso; omega
  · refine lv_iload_n X.1 X.2.1 dX5_needPrice_5 rfl (lv_at hl 0 rfl) ?_
    refine tn_si (v := 10000) X dX5_needPrice_6 (by decide) ?_
    refine tn_le (tgt := 22) X dX5_needPrice_9 (by decide) (by omega) (by omega) (fun h9 => ?_) (fun h9 => ?_)
    · exact rV rfl X hM hS hret hlk dX5_needPrice_22
    · exfalso; omega

set_option maxHeartbeats 4000000 in
set_option maxRecDepth 100000 in
theorem c_X5_needCoupons {l : Launch} {G : dG} {ν : Mm} {st : Nat} (hW : WD ν) (hs : st < 2 ^ ν 0 6) : cV l yX5_needCoupons cX5_needCoupons 2 0 G [.ref (ra G 0), .int (nI st)] ν (fun ν' => ν' = ν) := by
  refine cV_of (by decide +kernel) (Nat.le_of_ble_eq_true rfl) ?_
  intro p e s m args below meth c ls X hM hret hlk hl
  have hS : dS G s.heap s.heap [] := va_S.rf
  have hnc := hW.nc
  have h256 := pow8 hnc
  refine lv_iload_n X.1 X.2.1 dX5_needCoupons_0 rfl (lv_at hl 1 rfl) ?_
  refine tn_lt0 (tgt := 14) X dX5_needCoupons_1 (by decide) (by omega) ?_
  refine lv_iload_n X.1 X.2.1 dX5_needCoupons_4 rfl (lv_at hl 1 rfl) ?_
  refine tn_ic (v := 1) X dX5_needCoupons_5 (by decide) ?_
  refine lv_aload_n X.1 X.2.1 dX5_needCoupons_6 rfl (lv_at hl 0 rfl) ?_
  refine m_get (ci := 5) (C := RX5) (T := TX5) (N := 10) X hM inA5 (by decide) (dE_desk G _) rfl 6 (by decide) kl_X5_46 rfl rfl dX5_needCoupons_7 ?_
  refine tn_shl1 X dX5_needCoupons_10 (by omega) ?_
  refine tn_lt (tgt := 24) X dX5_needCoupons_11 (by decide) (by omega) (by omega) (fun h11 => ?_) (fun h11 => ?_)
  · exact rV rfl X hM hS hret hlk dX5_needCoupons_24
  · exfalso; omega

set_option maxHeartbeats 4000000 in
set_option maxRecDepth 100000 in
theorem c_X5_needAllowed {l : Launch} {G : dG} {ν : Mm} {st : Nat} (hW : WD ν) (hs : st < 2 ^ 31) (hal : al ν st = true) : cV l yX5_needAllowed cX5_needAllowed 2 4 G [.ref (ra G 0), .int (nI st)] ν (fun ν' => ν' = ν) := by
  refine cV_of (by decide +kernel) (Nat.le_of_ble_eq_true rfl) ?_
  intro p e s m args below meth c ls X hM hret hlk hl
  have hS : dS G s.heap s.heap [] := va_S.rf
  refine lv_aload_n X.1 X.2.1 dX5_needAllowed_0 rfl (lv_at hl 0 rfl) ?_
  refine lv_iload_n X.1 X.2.1 dX5_needAllowed_1 rfl (lv_at hl 1 rfl) ?_
  refine kVI (As := [_]) X hM hS hl.1 (c_X5_isSetAllowed hW hs) (by decide) (dE_desk G _) rfl rfl kl_X5_144 mf_X5_isSetAllowed ⟨Nat.le_of_ble_eq_true rfl, Nat.le_of_ble_eq_true rfl⟩ ⟨Nat.zero_le _, Nat.zero_le _⟩ rfl (Nat.le_of_ble_eq_true rfl) dX5_needAllowed_2 (fun r2 ν2 H locs hp2 hM hS => ?_)
  obtain ⟨rfl, e2⟩ := hp2
  replace e2 := e2.symm
  subst e2
  refine tn_ne0 (tgt := 18) X dX5_needAllowed_5 (by decide) (by split <;> decide) (fun h5 => ?_) (fun h5 => ?_)
  · exact rV rfl X hM hS hret hlk dX5_needAllowed_18
  · exact absurd hal (ite0 h5)

set_option maxHeartbeats 4000000 in
set_option maxRecDepth 100000 in
theorem c_X5_isValueOfKind {l : Launch} {G : dG} {ν : Mm} {kd v : Nat} (hk : kd < 2 ^ 31) (hv : v < 2 ^ 31) : cI l yX5_isValueOfKind cX5_isValueOfKind 2 (some .boolean) 0 G [.int (nI kd), .int (nI v)] ν (fun r ν' => r = (if vk kd v then 1 else 0) ∧ ν' = ν) := by
  refine cI_of (by decide +kernel) (Nat.le_of_ble_eq_true rfl) ?_
  intro p e s m args below meth c ls X hM hret hlk hl
  have hS : dS G s.heap s.heap [] := va_S.rf
  refine lv_iload_n X.1 X.2.1 dX5_isValueOfKind_0 rfl (lv_at hl 0 rfl) ?_
  rcases (show kd = 0 ∨ kd = 1 ∨ kd = 2 ∨ kd = 3 ∨ 3 < kd by omega) with h1 | h1 | h1 | h1 | h1
  · refine tn_as h1 ?_
    refine tn_swI (a := 0) (tgt := 32) X dX5_isValueOfKind_1 (by decide) (by decide) (by decide) rfl (by decide) ?_
    refine lv_iload_n X.1 X.2.1 dX5_isValueOfKind_32 rfl (lv_at hl 1 rfl) ?_
    refine tn_ic (v := 1) X dX5_isValueOfKind_33 (by decide) ?_
    refine tn_lt (tgt := 47) X dX5_isValueOfKind_34 (by decide) (by omega) (by omega) (fun h34 => ?_) (fun h34 => ?_)
    · refine tn_ic (v := 0) X dX5_isValueOfKind_47 (by decide) ?_
      exact rZ ⟨(if_neg (by unfold vk; omega)).symm, rfl⟩ X hM hS hret hlk (by omega) dX5_isValueOfKind_48
    · refine lv_iload_n X.1 X.2.1 dX5_isValueOfKind_37 rfl (lv_at hl 1 rfl) ?_
      refine tn_bi (v := 100) X dX5_isValueOfKind_38 (by decide) ?_
      refine tn_gt (tgt := 47) X dX5_isValueOfKind_40 (by decide) (by omega) (by omega) (fun h40 => ?_) (fun h40 => ?_)
      · refine tn_ic (v := 0) X dX5_isValueOfKind_47 (by decide) ?_
        exact rZ ⟨(if_neg (by unfold vk; omega)).symm, rfl⟩ X hM hS hret hlk (by omega) dX5_isValueOfKind_48
      · refine tn_ic (v := 1) X dX5_isValueOfKind_43 (by decide) ?_
        refine lv_goto (tgt := 48) X.1 X.2.1 dX5_isValueOfKind_44 (by decide) ?_
        exact rZ ⟨(if_pos (by unfold vk; omega)).symm, rfl⟩ X hM hS hret hlk (by omega) dX5_isValueOfKind_48
  · refine tn_as h1 ?_
    refine tn_swI (a := 1) (tgt := 49) X dX5_isValueOfKind_1 (by decide) (by decide) (by decide) rfl (by decide) ?_
    refine lv_iload_n X.1 X.2.1 dX5_isValueOfKind_49 rfl (lv_at hl 1 rfl) ?_
    refine tn_ic (v := 1) X dX5_isValueOfKind_50 (by decide) ?_
    refine tn_lt (tgt := 64) X dX5_isValueOfKind_51 (by decide) (by omega) (by omega) (fun h51 => ?_) (fun h51 => ?_)
    · refine tn_ic (v := 0) X dX5_isValueOfKind_64 (by decide) ?_
      exact rZ ⟨(if_neg (by unfold vk; omega)).symm, rfl⟩ X hM hS hret hlk (by omega) dX5_isValueOfKind_65
    · refine lv_iload_n X.1 X.2.1 dX5_isValueOfKind_54 rfl (lv_at hl 1 rfl) ?_
      refine tn_ldc (w := 100000) X kl_X5_248 (by decide) dX5_isValueOfKind_55 ?_
      refine tn_gt (tgt := 64) X dX5_isValueOfKind_57 (by decide) (by omega) (by omega) (fun h57 => ?_) (fun h57 => ?_)
      · refine tn_ic (v := 0) X dX5_isValueOfKind_64 (by decide) ?_
        exact rZ ⟨(if_neg (by unfold vk; omega)).symm, rfl⟩ X hM hS hret hlk (by omega) dX5_isValueOfKind_65
      · refine tn_ic (v := 1) X dX5_isValueOfKind_60 (by decide) ?_
        refine lv_goto (tgt := 65) X.1 X.2.1 dX5_isValueOfKind_61 (by decide) ?_
        exact rZ ⟨(if_pos (by unfold vk; omega)).symm, rfl⟩ X hM hS hret hlk (by omega) dX5_isValueOfKind_65
  · refine tn_as h1 ?_
    refine tn_swI (a := 2) (tgt := 66) X dX5_isValueOfKind_1 (by decide) (by decide) (by decide) rfl (by decide) ?_
    refine lv_iload_n X.1 X.2.1 dX5_isValueOfKind_66 rfl (lv_at hl 1 rfl) ?_
    refine tn_ic (v := 2) X dX5_isValueOfKind_67 (by decide) ?_
    refine tn_lt (tgt := 81) X dX5_isValueOfKind_68 (by decide) (by omega) (by omega) (fun h68 => ?_) (fun h68 => ?_)
    · refine tn_ic (v := 0) X dX5_isValueOfKind_81 (by decide) ?_
      exact rZ ⟨(if_neg (by unfold vk; omega)).symm, rfl⟩ X hM hS hret hlk (by omega) dX5_isValueOfKind_82
    · refine lv_iload_n X.1 X.2.1 dX5_isValueOfKind_71 rfl (lv_at hl 1 rfl) ?_
      refine tn_bi (v := 9) X dX5_isValueOfKind_72 (by decide) ?_
      refine tn_gt (tgt := 81) X dX5_isValueOfKind_74 (by decide) (by omega) (by omega) (fun h74 => ?_) (fun h74 => ?_)
      · refine tn_ic (v := 0) X dX5_isValueOfKind_81 (by decide) ?_
        exact rZ ⟨(if_neg (by unfold vk; omega)).symm, rfl⟩ X hM hS hret hlk (by omega) dX5_isValueOfKind_82
      · refine tn_ic (v := 1) X dX5_isValueOfKind_77 (by decide) ?_
        refine lv_goto (tgt := 82) X.1 X.2.1 dX5_isValueOfKind_78 (by decide) ?_
        exact rZ ⟨(if_pos (by unfold vk; omega)).symm, rfl⟩ X hM hS hret hlk (by omega) dX5_isValueOfKind_82
  · refine tn_as h1 ?_
    refine tn_swI (a := 3) (tgt := 83) X dX5_isValueOfKind_1 (by decide) (by decide) (by decide) rfl (by decide) ?_
    refine lv_iload_n X.1 X.2.1 dX5_isValueOfKind_83 rfl (lv_at hl 1 rfl) ?_
    refine tn_ne0 (tgt := 91) X dX5_isValueOfKind_84 (by decide) (by omega) (fun h84 => ?_) (fun h84 => ?_)
    · refine tn_ic (v := 0) X dX5_isValueOfKind_91 (by decide) ?_
      exact rZ ⟨(if_neg (by unfold vk; omega)).symm, rfl⟩ X hM hS hret hlk (by omega) dX5_isValueOfKind_92
    · refine tn_ic (v := 1) X dX5_isValueOfKind_87 (by decide) ?_
      refine lv_goto (tgt := 92) X.1 X.2.1 dX5_isValueOfKind_88 (by decide) ?_
      exact rZ ⟨(if_pos (by unfold vk; omega)).symm, rfl⟩ X hM hS hret hlk (by omega) dX5_isValueOfKind_92
  · refine tn_swO (tgt := 93) X dX5_isValueOfKind_1 (by omega) (Or.inr (by omega)) (by decide) ?_
    refine tn_ic (v := 0) X dX5_isValueOfKind_93 (by decide) ?_
    exact rZ ⟨(if_neg (by unfold vk; omega)).symm, rfl⟩ X hM hS hret hlk (by omega) dX5_isValueOfKind_94

set_option maxHeartbeats 4000000 in
set_option maxRecDepth 100000 in
theorem c_X5_addArticle {l : Launch} {G : dG} {ν : Mm} {pr ca : Nat} (hW : WD ν) (h1 : 1 ≤ pr) (h2 : pr ≤ 10000) (h3 : ca ≤ 7) (h4 : ν 0 5 < 10) : cI l yX5_addArticle cX5_addArticle 4 (some .int) 1 G [.ref (ra G 0), .int (nI pr), .int (nI ca)] ν (fun r ν' => r = ν 0 5 ∧ ν' = up2 (up2 (up2 ν 2 (ν 0 5) pr) 3 (ν 0 5) ca) 0 5 (ν 0 5 + 1)) := by
  refine cI_of (by decide +kernel) (Nat.le_of_ble_eq_true rfl) ?_
  intro p e s m args below meth c ls X hM hret hlk hl
  have hS : dS G s.heap s.heap [] := va_S.rf
  refine lv_iload_n X.1 X.2.1 dX5_addArticle_0 rfl (lv_at hl 1 rfl) ?_
  refine kSV (As := [_]) X hM hS hl.1 (c_X5_needPrice h1 h2) kl_X5_61 mf_X5_needPrice ⟨Nat.le_of_ble_eq_true rfl, Nat.le_of_ble_eq_true rfl⟩ ⟨Nat.zero_le _, Nat.zero_le _⟩ rfl (Nat.le_of_ble_eq_true rfl) dX5_addArticle_1 (fun ν1 H locs hp1 hM hS => ?_)
  replace hp1 := hp1.symm
  subst hp1
  refine lv_iload_n X.1 X.2.1 dX5_addArticle_4 rfl (lv_at hl 2 rfl) ?_
  refine tn_lt0 (tgt := 14) X dX5_addArticle_5 (by decide) (by omega) ?_
  refine lv_iload_n X.1 X.2.1 dX5_addArticle_8 rfl (lv_at hl 2 rfl) ?_
  refine tn_bi (v := 7) X dX5_addArticle_9 (by decide) ?_
  refine tn_le (tgt := 24) X dX5_addArticle_11 (by decide) (by omega) (by omega) (fun h11 => ?_) (fun h11 => ?_)
  · refine lv_aload_n X.1 X.2.1 dX5_addArticle_24 rfl (lv_at hl 0 rfl) ?_
    refine m_get (ci := 5) (C := RX5) (T := TX5) (N := 10) X hM inA5 (by decide) (dE_desk G _) rfl 5 (by decide) kl_X5_42 rfl rfl dX5_addArticle_25 ?_
    refine tn_bi (v := 10) X dX5_addArticle_28 (by decide) ?_
    refine tn_lt (tgt := 43) X dX5_addArticle_30 (by decide) (by omega) (by omega) (fun h30 => ?_) (fun h30 => ?_)
    · refine lv_aload_n X.1 X.2.1 dX5_addArticle_43 rfl (lv_at hl 0 rfl) ?_
      refine m_get (ci := 5) (C := RX5) (T := TX5) (N := 10) X hM inA5 (by decide) (dE_desk G _) rfl 5 (by decide) kl_X5_42 rfl rfl dX5_addArticle_44 ?_
      refine lv_istore_n X.1 X.2.1 dX5_addArticle_47 rfl hl (by decide) rfl (fun ls hl => ?_)
      replace hl : lv_has ls 4 [(3, _), (0, _), (1, _), (2, _)] := hl
      refine lv_aload_n X.1 X.2.1 dX5_addArticle_48 rfl (lv_at hl 1 rfl) ?_
      refine m_get (ci := 5) (C := RX5) (T := TX5) (N := 10) X hM inA5 (by decide) (dE_desk G _) rfl 0 (by decide) kl_X5_12 rfl rfl dX5_addArticle_49 ?_
      refine m_getN (ci := 1) (C := RX1) (T := TX1) (N := 3) X hM inA1 (by have := lotB.lt lotB_1; omega) (dE_lot lotB_1 G _) rfl 0 (by decide) kl_X5_77 rfl rfl dX5_addArticle_52 ?_
      refine lv_iload_n X.1 X.2.1 dX5_addArticle_55 rfl (lv_at hl 0 rfl) ?_
      refine lv_iload_n X.1 X.2.1 dX5_addArticle_56 rfl (lv_at hl 2 rfl) ?_
      refine m_iast X hM hS (by have := lotB.lt lotB_1; omega) (fun _ => (dE_lotA lotB_1 (by decide) (by decide) G _)) (by omega) (by decide) dX5_addArticle_57 (fun H locs hM hS => ?_)
      refine lv_aload_n X.1 X.2.1 dX5_addArticle_58 rfl (lv_at hl 1 rfl) ?_
      refine m_get (ci := 5) (C := RX5) (T := TX5) (N := 10) X hM inA5 (by decide) (dE_desk G _) rfl 0 (by decide) kl_X5_12 rfl rfl dX5_addArticle_59 ?_
      refine m_getN (ci := 1) (C := RX1) (T := TX1) (N := 3) X hM inA1 (by have := lotB.lt lotB_1; omega) (dE_lot lotB_1 G _) rfl 1 (by decide) kl_X5_81 rfl rfl dX5_addArticle_62 ?_
      refine lv_iload_n X.1 X.2.1 dX5_addArticle_65 rfl (lv_at hl 0 rfl) ?_
      refine lv_iload_n X.1 X.2.1 dX5_addArticle_66 rfl (lv_at hl 3 rfl) ?_
      refine m_iast X hM hS (by have := lotB.lt lotB_1; omega) (fun _ => (dE_lotA lotB_1 (by decide) (by decide) G _)) (by omega) (by decide) dX5_addArticle_67 (fun H locs hM hS => ?_)
      refine lv_aload_n X.1 X.2.1 dX5_addArticle_68 rfl (lv_at hl 1 rfl) ?_
      refine lv_dup X.1 X.2.1 dX5_addArticle_69 rfl ?_
      refine m_get (ci := 5) (C := RX5) (T := TX5) (N := 10) X hM inA5 (by decide) (dE_desk G _) rfl 5 (by decide) kl_X5_42 rfl rfl dX5_addArticle_70 ?_
      refine tn_ic (v := 1) X dX5_addArticle_73 (by decide) ?_
      refine tn_add X dX5_addArticle_74 ?_
      refine m_put (ci := 5) (C := RX5) (T := TX5) (N := 10) X hM hS inA5 tyX5_ok nmX5 (by decide) (dE_desk G _) rfl 5 (by decide) kl_X5_42 rfl rfl (by decide +kernel) (Nat.le_of_ble_eq_true rfl) (dE_desk G _) dX5_addArticle_75 (fun H locs hM hS => ?_)
      refine lv_iload_n X.1 X.2.1 dX5_addArticle_78 rfl (lv_at hl 0 rfl) ?_
      exact rI ⟨rfl, rfl⟩ X hM hS hret hlk dX5_addArticle_79
    · exfalso; omega
  · exfalso; omega

set_option maxHeartbeats 4000000 in
set_option maxRecDepth 100000 in
theorem c_X5_put {l : Launch} {G : dG} {ν : Mm} {a n : Nat} (hW : WD ν) (ha : a < ν 0 5) (hn : n ≤ 6) : cI l yX5_put cX5_put 4 (some .int) 1 G [.ref (ra G 0), .int (nI a), .int (nI n)] ν (fun r ν' => r = ν 4 a ∧ ν' = up2 ν 4 a n) := by
  refine cI_of (by decide +kernel) (Nat.le_of_ble_eq_true rfl) ?_
  intro p e s m args below meth c ls X hM hret hlk hl
  have hS : dS G s.heap s.heap [] := va_S.rf
  have := hW.na
  refine lv_aload_n X.1 X.2.1 dX5_put_0 rfl (lv_at hl 0 rfl) ?_
  refine lv_iload_n X.1 X.2.1 dX5_put_1 rfl (lv_at hl 1 rfl) ?_
  refine kVV (As := [_]) X hM hS hl.1 (c_X5_needArticle hW ha) (by decide) (dE_desk G _) rfl rfl kl_X5_84 mf_X5_needArticle ⟨Nat.le_of_ble_eq_true rfl, Nat.le_of_ble_eq_true rfl⟩ ⟨Nat.zero_le _, Nat.zero_le _⟩ rfl (Nat.le_of_ble_eq_true rfl) dX5_put_2 (fun ν2 H locs hp2 hM hS => ?_)
  replace hp2 := hp2.symm
  subst hp2
  refine lv_iload_n X.1 X.2.1 dX5_put_5 rfl (lv_at hl 2 rfl) ?_
  refine tn_lt0 (tgt := 15) X dX5_put_6 (by decide) (by omega) ?_
  refine lv_iload_n X.1 X.2.1 dX5_put_9 rfl (lv_at hl 2 rfl) ?_
  refine tn_bi (v := 6) X dX5_put_10 (by decide) ?_
  refine tn_le (tgt := 25) X dX5_put_12 (by decide) (by omega) (by omega) (fun h12 => ?_) (fun h12 => ?_)
  · refine lv_aload_n X.1 X.2.1 dX5_put_25 rfl (lv_at hl 0 rfl) ?_
    refine m_get (ci := 5) (C := RX5) (T := TX5) (N := 10) X hM inA5 (by decide) (dE_desk G _) rfl 0 (by decide) kl_X5_12 rfl rfl dX5_put_26 ?_
    refine m_getN (ci := 1) (C := RX1) (T := TX1) (N := 3) X hM inA1 (by have := lotB.lt lotB_1; omega) (dE_lot lotB_1 G _) rfl 2 (by decide) kl_X5_89 rfl rfl dX5_put_29 ?_
    refine lv_iload_n X.1 X.2.1 dX5_put_32 rfl (lv_at hl 1 rfl) ?_
    refine m_iald X hM (by have := lotB.lt lotB_1; omega) (dE_lotA lotB_1 (by decide) (by decide) G _) (by omega) (by decide) dX5_put_33 ?_
    refine lv_istore_n X.1 X.2.1 dX5_put_34 rfl hl (by decide) rfl (fun ls hl => ?_)
    replace hl : lv_has ls 4 [(3, _), (0, _), (1, _), (2, _)] := hl
    refine lv_aload_n X.1 X.2.1 dX5_put_35 rfl (lv_at hl 1 rfl) ?_
    refine m_get (ci := 5) (C := RX5) (T := TX5) (N := 10) X hM inA5 (by decide) (dE_desk G _) rfl 0 (by decide) kl_X5_12 rfl rfl dX5_put_36 ?_
    refine m_getN (ci := 1) (C := RX1) (T := TX1) (N := 3) X hM inA1 (by have := lotB.lt lotB_1; omega) (dE_lot lotB_1 G _) rfl 2 (by decide) kl_X5_89 rfl rfl dX5_put_39 ?_
    refine lv_iload_n X.1 X.2.1 dX5_put_42 rfl (lv_at hl 2 rfl) ?_
    refine lv_iload_n X.1 X.2.1 dX5_put_43 rfl (lv_at hl 3 rfl) ?_
    refine m_iast X hM hS (by have := lotB.lt lotB_1; omega) (fun _ => (dE_lotA lotB_1 (by decide) (by decide) G _)) (by omega) (by decide) dX5_put_44 (fun H locs hM hS => ?_)
    refine lv_iload_n X.1 X.2.1 dX5_put_45 rfl (lv_at hl 0 rfl) ?_
    exact rI ⟨rfl, rfl⟩ X hM hS hret hlk dX5_put_46
  · exfalso; omega

set_option maxHeartbeats 4000000 in
set_option maxRecDepth 100000 in
theorem c_X5_value {l : Launch} {G : dG} {ν : Mm} (hW : WD ν) : cI l yX5_value cX5_value 1 (some .int) 1 G [.ref (ra G 0)] ν (fun r ν' => r = pin ν 1 255 10 ∧ ν' = ν) := by
  refine cI_of (by decide +kernel) (Nat.le_of_ble_eq_true rfl) ?_
  intro p e s m args below meth c ls X hM hret hlk hl
  have hS : dS G s.heap s.heap [] := va_S.rf
  refine lv_aload_n X.1 X.2.1 dX5_value_0 rfl (lv_at hl 0 rfl) ?_
  refine m_get (ci := 5) (C := RX5) (T := TX5) (N := 10) X hM inA5 (by decide) (dE_desk G _) rfl 0 (by decide) kl_X5_12 rfl rfl dX5_value_1 ?_
  refine tn_si (v := 255) X dX5_value_4 (by decide) ?_
  refine kNI (As := [_]) X hM hS hl.1 (c_X1_pricesIn lotB_1 (by decide) (hW.cC lotB_1)) (by have := lotB.lt lotB_1; omega) (dE_lot lotB_1 G _) rfl rfl kl_X5_92 mf_X1_pricesIn ⟨Nat.le_of_ble_eq_true rfl, Nat.le_of_ble_eq_true rfl⟩ ⟨Nat.zero_le _, Nat.zero_le _⟩ rfl (Nat.le_of_ble_eq_true rfl) dX5_value_7 (fun r7 ν7 H locs hp7 hM hS => ?_)
  obtain ⟨rfl, e7⟩ := hp7
  replace e7 := e7.symm
  subst e7
  exact rI ⟨rfl, rfl⟩ X hM hS hret hlk dX5_value_10

set_option maxHeartbeats 4000000 in
set_option maxRecDepth 100000 in
theorem c_X5_setShipping {l : Launch} {G : dG} {ν : Mm} {fe li : Nat} (h1 : fe ≤ 10000) (h2 : li ≤ 1000000) : cI l yX5_setShipping cX5_setShipping 4 (some .int) 0 G [.ref (ra G 0), .int (nI fe), .int (nI li)] ν (fun r ν' => r = ν 0 8 ∧ ν' = up2 (up2 ν 0 8 fe) 0 9 li) := by
  refine cI_of (by decide +kernel) (Nat.le_of_ble_eq_true rfl) ?_
  intro p e s m args below meth c ls X hM hret hlk hl
  have hS : dS G s.heap s.heap [] := va_S.rf
  refine lv_iload_n X.1 X.2.1 dX5_setShipping_0 rfl (lv_at hl 1 rfl) ?_
  refine tn_lt0 (tgt := 11) X dX5_setShipping_1 (by decide) (by omega) ?_
  refine lv_iload_n X.1 X.2.1 dX5_setShipping_4 rfl (lv_at hl 1 rfl) ?_
  refine tn_si (v := 10000) X dX5_setShipping_5 (by decide) ?_
  refine tn_le (tgt := 21) X dX5_setShipping_8 (by decide) (by omega) (by omega) (fun h8 => ?_) (fun h8 => ?_)
  · refine lv_iload_n X.1 X.2.1 dX5_setShipping_21 rfl (lv_at hl 2 rfl) ?_
    refine tn_lt0 (tgt := 31) X dX5_setShipping_22 (by decide) (by omega) ?_
    refine lv_iload_n X.1 X.2.1 dX5_setShipping_25 rfl (lv_at hl 2 rfl) ?_
    refine tn_ldc (w := 1000000) X kl_X5_55 (by decide) dX5_setShipping_26 ?_
    refine tn_le (tgt := 41) X dX5_setShipping_28 (by decide) (by omega) (by omega) (fun h28 => ?_) (fun h28 => ?_)
    · refine lv_aload_n X.1 X.2.1 dX5_setShipping_41 rfl (lv_at hl 0 rfl) ?_
      refine m_get (ci := 5) (C := RX5) (T := TX5) (N := 10) X hM inA5 (by decide) (dE_desk G _) rfl 8 (by decide) kl_X5_52 rfl rfl dX5_setShipping_42 ?_
      refine lv_istore_n X.1 X.2.1 dX5_setShipping_45 rfl hl (by decide) rfl (fun ls hl => ?_)
      replace hl : lv_has ls 4 [(3, _), (0, _), (1, _), (2, _)] := hl
      refine lv_aload_n X.1 X.2.1 dX5_setShipping_46 rfl (lv_at hl 1 rfl) ?_
      refine lv_iload_n X.1 X.2.1 dX5_setShipping_47 rfl (lv_at hl 2 rfl) ?_
      refine m_put (ci := 5) (C := RX5) (T := TX5) (N := 10) X hM hS inA5 tyX5_ok nmX5 (by decide) (dE_desk G _) rfl 8 (by decide) kl_X5_52 rfl rfl (by decide +kernel) (Nat.le_of_ble_eq_true rfl) (dE_desk G _) dX5_setShipping_48 (fun H locs hM hS => ?_)
      refine lv_aload_n X.1 X.2.1 dX5_setShipping_51 rfl (lv_at hl 1 rfl) ?_
      refine lv_iload_n X.1 X.2.1 dX5_setShipping_52 rfl (lv_at hl 3 rfl) ?_
      refine m_put (ci := 5) (C := RX5) (T := TX5) (N := 10) X hM hS inA5 tyX5_ok nmX5 (by decide) (dE_desk G _) rfl 9 (by decide) kl_X5_56 rfl rfl (by decide +kernel) (Nat.le_of_ble_eq_true rfl) (dE_desk G _) dX5_setShipping_53 (fun H locs hM hS => ?_)
      refine lv_iload_n X.1 X.2.1 dX5_setShipping_56 rfl (lv_at hl 0 rfl) ?_
      exact rI ⟨rfl, rfl⟩ X hM hS hret hlk dX5_setShipping_57
    · exfalso; omega
  · exfalso; omega

set_option maxHeartbeats 4000000 in
set_option maxRecDepth 100000 in
theorem c_X5_addCoupon {l : Launch} {G : dG} {ν : Mm} {kd v cs mi gr : Nat} (hW : WD ν) (h1 : vk kd v) (h2 : 1 ≤ cs) (h3 : cs ≤ 255) (h4 : mi ≤ 1000000) (h5 : gr ≤ 3) (h6 : ν 0 6 < 8) : cI l yX5_addCoupon cX5_addCoupon 7 (some .int) 1 G [.ref (ra G 0), .int (nI kd), .int (nI v), .int (nI cs), .int (nI mi), .int (nI gr)] ν (fun r ν' => r = ν 0 6 ∧ ν' = up2 (up2 (up2 (up2 (up2 (up2 (up2 ν (22 + ν 0 6) 0 kd) (22 + ν 0 6) 1 v) (22 + ν 0 6) 2 cs) (22 + ν 0 6) 3 mi) (22 + ν 0 6) 4 gr) (22 + ν 0 6) 5 9) 0 6 (ν 0 6 + 1)) := by
  refine cI_of (by decide +kernel) (Nat.le_of_ble_eq_true rfl) ?_
  intro p e s m args below meth c ls X hM hret hlk hl
  have hS : dS G s.heap s.heap [] := va_S.rf
  have hv9 : kd ≤ 3 ∧ v ≤ 100000 := by unfold vk at h1; omega
  have h5g := h5
  refine lv_iload_n X.1 X.2.1 dX5_addCoupon_0 rfl (lv_at hl 1 rfl) ?_
  refine lv_iload_n X.1 X.2.1 dX5_addCoupon_1 rfl (lv_at hl 2 rfl) ?_
  refine kSI (As := [_, _]) X hM hS hl.1 (c_X5_isValueOfKind (by omega) (by omega)) kl_X5_100 mf_X5_isValueOfKind ⟨Nat.le_of_ble_eq_true rfl, Nat.le_of_ble_eq_true rfl⟩ ⟨Nat.zero_le _, Nat.zero_le _⟩ rfl (Nat.le_of_ble_eq_true rfl) dX5_addCoupon_2 (fun r2 ν2 H locs hp2 hM hS => ?_)
  obtain ⟨rfl, e2⟩ := hp2
  replace e2 := e2.symm
  subst e2
  refine tn_ne0 (tgt := 18) X dX5_addCoupon_5 (by decide) (by split <;> decide) (fun h5 => ?_) (fun h5 => ?_)
  · refine lv_iload_n X.1 X.2.1 dX5_addCoupon_18 rfl (lv_at hl 3 rfl) ?_
    refine tn_ic (v := 1) X dX5_addCoupon_19 (by decide) ?_
    refine tn_lt (tgt := 30) X dX5_addCoupon_20 (by decide) (by omega) (by omega) (fun h20 => ?_) (fun h20 => ?_)
    · exfalso; omega
    · refine lv_iload_n X.1 X.2.1 dX5_addCoupon_23 rfl (lv_at hl 3 rfl) ?_
      refine tn_si (v := 255) X dX5_addCoupon_24 (by decide) ?_
      refine tn_le (tgt := 40) X dX5_addCoupon_27 (by decide) (by omega) (by omega) (fun h27 => ?_) (fun h27 => ?_)
      · refine lv_iload X.1 X.2.1 dX5_addCoupon_40 (lv_at hl 4 rfl) ?_
        refine tn_lt0 (tgt := 52) X dX5_addCoupon_42 (by decide) (by omega) ?_
        refine lv_iload X.1 X.2.1 dX5_addCoupon_45 (lv_at hl 4 rfl) ?_
        refine tn_ldc (w := 1000000) X kl_X5_55 (by decide) dX5_addCoupon_47 ?_
        refine tn_le (tgt := 62) X dX5_addCoupon_49 (by decide) (by omega) (by omega) (fun h49 => ?_) (fun h49 => ?_)
        · refine lv_iload X.1 X.2.1 dX5_addCoupon_62 (lv_at hl 5 rfl) ?_
          refine tn_lt0 (tgt := 73) X dX5_addCoupon_64 (by decide) (by omega) ?_
          refine lv_iload X.1 X.2.1 dX5_addCoupon_67 (lv_at hl 5 rfl) ?_
          refine tn_ic (v := 3) X dX5_addCoupon_69 (by decide) ?_
          refine tn_le (tgt := 83) X dX5_addCoupon_70 (by decide) (by omega) (by omega) (fun h70 => ?_) (fun h70 => ?_)
          · refine lv_aload_n X.1 X.2.1 dX5_addCoupon_83 rfl (lv_at hl 0 rfl) ?_
            refine m_get (ci := 5) (C := RX5) (T := TX5) (N := 10) X hM inA5 (by decide) (dE_desk G _) rfl 6 (by decide) kl_X5_46 rfl rfl dX5_addCoupon_84 ?_
            refine tn_bi (v := 8) X dX5_addCoupon_87 (by decide) ?_
            refine tn_lt (tgt := 102) X dX5_addCoupon_89 (by decide) (by omega) (by omega) (fun h89 => ?_) (fun h89 => ?_)
            · refine lv_aload_n X.1 X.2.1 dX5_addCoupon_102 rfl (lv_at hl 0 rfl) ?_
              refine m_get (ci := 5) (C := RX5) (T := TX5) (N := 10) X hM inA5 (by decide) (dE_desk G _) rfl 6 (by decide) kl_X5_46 rfl rfl dX5_addCoupon_103 ?_
              refine lv_istore X.1 X.2.1 dX5_addCoupon_106 hl (by decide) rfl (fun ls hl => ?_)
              replace hl : lv_has ls 7 [(6, _), (0, _), (1, _), (2, _), (3, _), (4, _), (5, _)] := hl
              refine lv_aload_n X.1 X.2.1 dX5_addCoupon_108 rfl (lv_at hl 1 rfl) ?_
              refine m_get (ci := 5) (C := RX5) (T := TX5) (N := 10) X hM inA5 (by decide) (dE_desk G _) rfl 1 (by decide) kl_X5_18 rfl rfl dX5_addCoupon_109 ?_
              refine lv_iload X.1 X.2.1 dX5_addCoupon_112 (lv_at hl 0 rfl) ?_
              refine m_aald 1 rfl X hM (by decide) (dE_coupons G _) rfl h6 (by decide) dX5_addCoupon_114 ?_
              refine lv_iload_n X.1 X.2.1 dX5_addCoupon_115 rfl (lv_at hl 2 rfl) ?_
              refine lv_iload_n X.1 X.2.1 dX5_addCoupon_116 rfl (lv_at hl 3 rfl) ?_
              refine lv_iload_n X.1 X.2.1 dX5_addCoupon_117 rfl (lv_at hl 4 rfl) ?_
              refine lv_iload X.1 X.2.1 dX5_addCoupon_118 (lv_at hl 5 rfl) ?_
              refine lv_iload X.1 X.2.1 dX5_addCoupon_120 (lv_at hl 6 rfl) ?_
              refine kNV (As := [_, _, _, _, _]) X hM hS hl.1 (c_X0_become (show ν 0 6 < 8 by omega)) (by omega) (dE_cou h6 G _) rfl rfl kl_X5_114 mf_X0_become ⟨Nat.le_of_ble_eq_true rfl, Nat.le_of_ble_eq_true rfl⟩ ⟨Nat.zero_le _, Nat.zero_le _⟩ rfl (Nat.le_of_ble_eq_true rfl) dX5_addCoupon_122 (fun ν122 H locs hp122 hM hS => ?_)
              replace hp122 := hp122.symm
              subst hp122
              refine lv_aload_n X.1 X.2.1 dX5_addCoupon_125 rfl (lv_at hl 1 rfl) ?_
              have e06 : up2 (up2 (up2 (up2 (up2 (up2 ν (22 + ν 0 6) 0 kd) (22 + ν 0 6) 1 v) (22 + ν 0 6) 2 cs) (22 + ν 0 6) 3 mi) (22 + ν 0 6) 4 gr) (22 + ν 0 6) 5 9 0 6 = ν 0 6 := by simp [up2_if]
              refine lv_dup X.1 X.2.1 dX5_addCoupon_126 rfl ?_
              refine m_get (ci := 5) (C := RX5) (T := TX5) (N := 10) X hM inA5 (by decide) (dE_desk G _) rfl 6 (by decide) kl_X5_46 rfl rfl dX5_addCoupon_127 ?_
              refine tn_as e06 ?_
              refine tn_ic (v := 1) X dX5_addCoupon_130 (by decide) ?_
              refine tn_add X dX5_addCoupon_131 ?_
              refine m_put (ci := 5) (C := RX5) (T := TX5) (N := 10) X hM hS inA5 tyX5_ok nmX5 (by decide) (dE_desk G _) rfl 6 (by decide) kl_X5_46 rfl rfl (by decide +kernel) (Nat.le_of_ble_eq_true rfl) (dE_desk G _) dX5_addCoupon_132 (fun H locs hM hS => ?_)
              refine lv_iload X.1 X.2.1 dX5_addCoupon_135 (lv_at hl 0 rfl) ?_
              exact rI ⟨rfl, rfl⟩ X hM hS hret hlk dX5_addCoupon_137
            · exfalso; omega
          · exfalso; omega
        · exfalso; omega
      · exfalso; omega
  · exact absurd h1 (ite0 h5)

set_option maxHeartbeats 4000000 in
set_option maxRecDepth 100000 in
theorem c_X5_isAllowed {l : Launch} {G : dG} {ν : Mm} {st : Nat} (hW : WD ν) (hs : st < 2 ^ ν 0 6) : cI l yX5_isAllowed cX5_isAllowed 2 (some .boolean) 4 G [.ref (ra G 0), .int (nI st)] ν (fun r ν' => r = (if al ν st = true then 1 else 0) ∧ ν' = ν) := by
  refine cI_of (by decide +kernel) (Nat.le_of_ble_eq_true rfl) ?_
  intro p e s m args below meth c ls X hM hret hlk hl
  have hS : dS G s.heap s.heap [] := va_S.rf
  have h256 := pow8 hW.nc
  refine lv_aload_n X.1 X.2.1 dX5_isAllowed_0 rfl (lv_at hl 0 rfl) ?_
  refine lv_iload_n X.1 X.2.1 dX5_isAllowed_1 rfl (lv_at hl 1 rfl) ?_
  refine kVV (As := [_]) X hM hS hl.1 (c_X5_needCoupons hW hs) (by decide) (dE_desk G _) rfl rfl kl_X5_141 mf_X5_needCoupons ⟨Nat.le_of_ble_eq_true rfl, Nat.le_of_ble_eq_true rfl⟩ ⟨Nat.zero_le _, Nat.zero_le _⟩ rfl (Nat.le_of_ble_eq_true rfl) dX5_isAllowed_2 (fun ν2 H locs hp2 hM hS => ?_)
  replace hp2 := hp2.symm
  subst hp2
  refine lv_aload_n X.1 X.2.1 dX5_isAllowed_5 rfl (lv_at hl 0 rfl) ?_
  refine lv_iload_n X.1 X.2.1 dX5_isAllowed_6 rfl (lv_at hl 1 rfl) ?_
  refine kVI (As := [_]) X hM hS hl.1 (c_X5_isSetAllowed hW (by omega)) (by decide) (dE_desk G _) rfl rfl kl_X5_144 mf_X5_isSetAllowed ⟨Nat.le_of_ble_eq_true rfl, Nat.le_of_ble_eq_true rfl⟩ ⟨Nat.zero_le _, Nat.zero_le _⟩ rfl (Nat.le_of_ble_eq_true rfl) dX5_isAllowed_7 (fun r7 ν7 H locs hp7 hM hS => ?_)
  obtain ⟨rfl, e7⟩ := hp7
  replace e7 := e7.symm
  subst e7
  exact rZ ⟨rfl, rfl⟩ X hM hS hret hlk (by split <;> simp) dX5_isAllowed_10

set_option maxHeartbeats 4000000 in
set_option maxRecDepth 100000 in
theorem c_X5_goods {l : Launch} {G : dG} {ν : Mm} {st : Nat} (hW : WD ν) (hs : st < 2 ^ ν 0 6) (hal : al ν st = true) : cI l yX5_goods cX5_goods 2 (some .int) 6 G [.ref (ra G 0), .int (nI st)] ν (fun r ν' => r = gdF ν 1 st ∧ dsk ν ν') := by
  refine cI_of (by decide +kernel) (Nat.le_of_ble_eq_true rfl) ?_
  intro p e s m args below meth c ls X hM hret hlk hl
  have hS : dS G s.heap s.heap [] := va_S.rf
  have h256 := pow8 hW.nc
  refine lv_aload_n X.1 X.2.1 dX5_goods_0 rfl (lv_at hl 0 rfl) ?_
  refine lv_iload_n X.1 X.2.1 dX5_goods_1 rfl (lv_at hl 1 rfl) ?_
  refine kVV (As := [_]) X hM hS hl.1 (c_X5_needCoupons hW hs) (by decide) (dE_desk G _) rfl rfl kl_X5_141 mf_X5_needCoupons ⟨Nat.le_of_ble_eq_true rfl, Nat.le_of_ble_eq_true rfl⟩ ⟨Nat.zero_le _, Nat.zero_le _⟩ rfl (Nat.le_of_ble_eq_true rfl) dX5_goods_2 (fun ν2 H locs hp2 hM hS => ?_)
  replace hp2 := hp2.symm
  subst hp2
  refine lv_aload_n X.1 X.2.1 dX5_goods_5 rfl (lv_at hl 0 rfl) ?_
  refine lv_iload_n X.1 X.2.1 dX5_goods_6 rfl (lv_at hl 1 rfl) ?_
  refine kVV (As := [_]) X hM hS hl.1 (c_X5_needAllowed hW (by omega) hal) (by decide) (dE_desk G _) rfl rfl kl_X5_148 mf_X5_needAllowed ⟨Nat.le_of_ble_eq_true rfl, Nat.le_of_ble_eq_true rfl⟩ ⟨Nat.zero_le _, Nat.zero_le _⟩ rfl (Nat.le_of_ble_eq_true rfl) dX5_goods_7 (fun ν7 H locs hp7 hM hS => ?_)
  replace hp7 := hp7.symm
  subst hp7
  refine lv_aload_n X.1 X.2.1 dX5_goods_10 rfl (lv_at hl 0 rfl) ?_
  refine lv_aload_n X.1 X.2.1 dX5_goods_11 rfl (lv_at hl 0 rfl) ?_
  refine m_get (ci := 5) (C := RX5) (T := TX5) (N := 10) X hM inA5 (by decide) (dE_desk G _) rfl 0 (by decide) kl_X5_12 rfl rfl dX5_goods_12 ?_
  refine lv_iload_n X.1 X.2.1 dX5_goods_15 rfl (lv_at hl 1 rfl) ?_
  refine kVI (As := [_, _]) X hM hS hl.1 (c_X5_goodsOf hW lotB_1 (by omega)) (by decide) (dE_desk G _) rfl rfl kl_X5_151 mf_X5_goodsOf ⟨Nat.le_of_ble_eq_true rfl, Nat.le_of_ble_eq_true rfl⟩ ⟨Nat.zero_le _, Nat.zero_le _⟩ rfl (Nat.le_of_ble_eq_true rfl) dX5_goods_16 (fun r16 ν16 H locs hp16 hM hS => ?_)
  obtain ⟨rfl, hgo16⟩ := hp16
  exact rI ⟨rfl, hgo16.1⟩ X hM hS hret hlk dX5_goods_19

set_option maxHeartbeats 4000000 in
set_option maxRecDepth 100000 in
theorem c_X5_total {l : Launch} {G : dG} {ν : Mm} {st : Nat} (hW : WD ν) (hs : st < 2 ^ ν 0 6) (hal : al ν st = true) : cI l yX5_total cX5_total 3 (some .int) 6 G [.ref (ra G 0), .int (nI st)] ν (fun r ν' => r = gdF ν 1 st + feF ν st (gdF ν 1 st) ∧ dsk ν ν') := by
  refine cI_of (by decide +kernel) (Nat.le_of_ble_eq_true rfl) ?_
  intro p e s m args below meth c ls X hM hret hlk hl
  have hS : dS G s.heap s.heap [] := va_S.rf
  have h256 := pow8 hW.nc
  have hgl := gdF_le hW lotB_1 st
  refine lv_aload_n X.1 X.2.1 dX5_total_0 rfl (lv_at hl 0 rfl) ?_
  refine lv_iload_n X.1 X.2.1 dX5_total_1 rfl (lv_at hl 1 rfl) ?_
  refine kVV (As := [_]) X hM hS hl.1 (c_X5_needCoupons hW hs) (by decide) (dE_desk G _) rfl rfl kl_X5_141 mf_X5_needCoupons ⟨Nat.le_of_ble_eq_true rfl, Nat.le_of_ble_eq_true rfl⟩ ⟨Nat.zero_le _, Nat.zero_le _⟩ rfl (Nat.le_of_ble_eq_true rfl) dX5_total_2 (fun ν2 H locs hp2 hM hS => ?_)
  replace hp2 := hp2.symm
  subst hp2
  refine lv_aload_n X.1 X.2.1 dX5_total_5 rfl (lv_at hl 0 rfl) ?_
  refine lv_iload_n X.1 X.2.1 dX5_total_6 rfl (lv_at hl 1 rfl) ?_
  refine kVV (As := [_]) X hM hS hl.1 (c_X5_needAllowed hW (by omega) hal) (by decide) (dE_desk G _) rfl rfl kl_X5_148 mf_X5_needAllowed ⟨Nat.le_of_ble_eq_true rfl, Nat.le_of_ble_eq_true rfl⟩ ⟨Nat.zero_le _, Nat.zero_le _⟩ rfl (Nat.le_of_ble_eq_true rfl) dX5_total_7 (fun ν7 H locs hp7 hM hS => ?_)
  replace hp7 := hp7.symm
  subst hp7
  refine lv_aload_n X.1 X.2.1 dX5_total_10 rfl (lv_at hl 0 rfl) ?_
  refine lv_aload_n X.1 X.2.1 dX5_total_11 rfl (lv_at hl 0 rfl) ?_
  refine m_get (ci := 5) (C := RX5) (T := TX5) (N := 10) X hM inA5 (by decide) (dE_desk G _) rfl 0 (by decide) kl_X5_12 rfl rfl dX5_total_12 ?_
  refine lv_iload_n X.1 X.2.1 dX5_total_15 rfl (lv_at hl 1 rfl) ?_
  refine kVI (As := [_, _]) X hM hS hl.1 (c_X5_goodsOf hW lotB_1 (by omega)) (by decide) (dE_desk G _) rfl rfl kl_X5_151 mf_X5_goodsOf ⟨Nat.le_of_ble_eq_true rfl, Nat.le_of_ble_eq_true rfl⟩ ⟨Nat.zero_le _, Nat.zero_le _⟩ rfl (Nat.le_of_ble_eq_true rfl) dX5_total_16 (fun r16 ν16 H locs hp16 hM hS => ?_)
  obtain ⟨rfl, hgo16⟩ := hp16
  refine lv_istore_n X.1 X.2.1 dX5_total_19 rfl hl (by decide) rfl (fun ls hl => ?_)
  replace hl : lv_has ls 3 [(2, _), (0, _), (1, _)] := hl
  refine lv_iload_n X.1 X.2.1 dX5_total_20 rfl (lv_at hl 0 rfl) ?_
  refine lv_aload_n X.1 X.2.1 dX5_total_21 rfl (lv_at hl 1 rfl) ?_
  refine lv_iload_n X.1 X.2.1 dX5_total_22 rfl (lv_at hl 2 rfl) ?_
  refine lv_iload_n X.1 X.2.1 dX5_total_23 rfl (lv_at hl 0 rfl) ?_
  refine kVI (As := [_, _]) X hM hS hl.1 (c_X5_feeFor (hgo16.1.WD hW) (by omega) (by omega)) (by decide) (dE_desk G _) rfl rfl kl_X5_155 mf_X5_feeFor ⟨Nat.le_of_ble_eq_true rfl, Nat.le_of_ble_eq_true rfl⟩ ⟨Nat.zero_le _, Nat.zero_le _⟩ rfl (Nat.le_of_ble_eq_true rfl) dX5_total_24 (fun r24 ν24 H locs hp24 hM hS => ?_)
  obtain ⟨rfl, e24⟩ := hp24
  replace e24 := e24.symm
  subst e24
  refine tn_add X dX5_total_27 ?_
  exact rI ⟨by rw [hgo16.1.feF], hgo16.1⟩ X hM hS hret hlk dX5_total_28

set_option maxHeartbeats 4000000 in
set_option maxRecDepth 100000 in
theorem c_X5_searchSets {l : Launch} {G : dG} {ν : Mm} {lo : Nat} (hW : WD ν) : cV l yX5_searchSets cX5_searchSets 2 14 G [.ref (ra G 0), .int (nI lo)] ν (fun ν' => dsk ν ν' ∧ s3 ν' = srch ν lo) := by
  refine cV_of (by decide +kernel) (Nat.le_of_ble_eq_true rfl) ?_
  intro p e s m args below meth c ls X hM hret hlk hl
  have hS : dS G s.heap s.heap [] := va_S.rf
  have hub : ubF ν (ν 0 6) < 256 := Nat.lt_of_lt_of_le (ubF_lt _) (pow8 hW.nc)
  refine lv_aload_n X.1 X.2.1 dX5_searchSets_0 rfl (lv_at hl 0 rfl) ?_
  refine m_get (ci := 5) (C := RX5) (T := TX5) (N := 10) X hM inA5 (by decide) (dE_desk G _) rfl 4 (by decide) kl_X5_38 rfl rfl dX5_searchSets_1 ?_
  refine lv_iload_n X.1 X.2.1 dX5_searchSets_4 rfl (lv_at hl 1 rfl) ?_
  refine lv_aload_n X.1 X.2.1 dX5_searchSets_5 rfl (lv_at hl 0 rfl) ?_
  refine kVI (As := []) X hM hS hl.1 (c_X5_usableForBasket hW) (by decide) (dE_desk G _) rfl rfl kl_X5_278 mf_X5_usableForBasket ⟨Nat.le_of_ble_eq_true rfl, Nat.le_of_ble_eq_true rfl⟩ ⟨Nat.zero_le _, Nat.zero_le _⟩ rfl (Nat.le_of_ble_eq_true rfl) dX5_searchSets_6 (fun r6 ν6 H locs hp6 hM hS => ?_)
  obtain ⟨rfl, e6⟩ := hp6
  replace e6 := e6.symm
  subst e6
  refine kNV (As := [_, _]) X hM hS hl.1 (c_X3_begin) (by decide) (dE_search G _) rfl rfl kl_X5_281 mf_X3_begin ⟨Nat.le_of_ble_eq_true rfl, Nat.le_of_ble_eq_true rfl⟩ ⟨Nat.zero_le _, Nat.zero_le _⟩ rfl (Nat.le_of_ble_eq_true rfl) dX5_searchSets_9 (fun ν9 H locs hp9 hM hS => ?_)
  replace hp9 := hp9.symm
  subst hp9
  have hdb : dsk ν (up2 (up2 (up2 (up2 (up2 ν 21 0 lo) 21 1 (ubF ν (ν 0 6))) 21 2 0) 21 3 610001) 21 4 610001) := fun i hi => by rw [up2_ne (by omega), up2_ne (by omega), up2_ne (by omega), up2_ne (by omega), up2_ne (by omega)]
  have hWb := hdb.WD hW
  refine lv_aload_n X.1 X.2.1 dX5_searchSets_12 rfl (lv_at hl 0 rfl) ?_
  refine m_get (ci := 5) (C := RX5) (T := TX5) (N := 10) X hM inA5 (by decide) (dE_desk G _) rfl 3 (by decide) kl_X5_31 rfl rfl dX5_searchSets_13 ?_
  refine lv_aload_n X.1 X.2.1 dX5_searchSets_16 rfl (lv_at hl 0 rfl) ?_
  refine m_get (ci := 5) (C := RX5) (T := TX5) (N := 10) X hM inA5 (by decide) (dE_desk G _) rfl 0 (by decide) kl_X5_12 rfl rfl dX5_searchSets_17 ?_
  refine kNV (As := [_]) X hM hS hl.1 (c_X4_lay lotB_1 (hWb.c6 lotB_1)) (by decide) (dE_tray G _) rfl rfl kl_X5_261 mf_X4_lay ⟨Nat.le_of_ble_eq_true rfl, Nat.le_of_ble_eq_true rfl⟩ ⟨Nat.zero_le _, Nat.zero_le _⟩ rfl (Nat.le_of_ble_eq_true rfl) dX5_searchSets_20 (fun ν20 H locs hp20 hM hS => ?_)
  obtain ⟨g1, g2, g3, g4⟩ := hp20
  have hds : dsk ν ν20 := hdb.trans (fun i hi => g3 i (by omega) (by omega) (by omega) (by omega))
  have e21 : ν20 21 = (up2 (up2 (up2 (up2 (up2 ν 21 0 lo) 21 1 (ubF ν (ν 0 6))) 21 2 0) 21 3 610001) 21 4 610001) 21 := g3 21 (by decide) (by decide) (by decide) (by decide)
  have hO : sOK ν20 := by unfold sOK; rw [e21]; simp [up2_if]; omega
  have hT : TL ν 1 ν20 := ⟨by rw [g1, hdb.cnt lotB_1], fun j hj => by have := g4 j (by rw [hdb.cnt lotB_1]; exact hj); rw [this.1, this.2.1, hdb.pcA lotB_1, hdb.l lotB_1 (by decide)]; exact ⟨rfl, rfl⟩⟩
  have hrow : ∀ j, j < cnt ν 1 10 → ν20 (11 + 0) j = f0L ν 1 j := fun j hj => by have := g4 j (by rw [hdb.cnt lotB_1]; exact hj); rw [this.2.2, hdb.pcA lotB_1, hdb.l lotB_1 (by decide)]; rfl
  refine lv_aload_n X.1 X.2.1 dX5_searchSets_23 rfl (lv_at hl 0 rfl) ?_
  refine tn_ic (v := 0) X dX5_searchSets_24 (by decide) ?_
  refine tn_ic (v := 0) X dX5_searchSets_25 (by decide) ?_
  refine tn_ic (v := 0) X dX5_searchSets_26 (by decide) ?_
  refine kSV (As := [_, _, _, _]) X hM hS hl.1 (c_X5_extend (σ := ν) 8 (dp := 0) (f := f0L ν 1) rfl hds hW (by decide) (by decide) hO hT hrow (fun j _ => f0_le hW lotB_1 j)) kl_X5_285 mf_X5_extend ⟨Nat.le_of_ble_eq_true rfl, Nat.le_of_ble_eq_true rfl⟩ ⟨Nat.zero_le _, Nat.zero_le _⟩ rfl (Nat.le_of_ble_eq_true rfl) dX5_searchSets_27 (fun ν27 H locs hp27 hM hS => ?_)
  exact rV ⟨hds.trans hp27.1.dsk, by rw [hp27.2, e21]; unfold s3; rw [e21]; simp only [up2_if]; simp; rfl⟩ X hM hS hret hlk dX5_searchSets_30

set_option maxHeartbeats 4000000 in
set_option maxRecDepth 100000 in
theorem c_X5_best {l : Launch} {G : dG} {ν : Mm} (hW : WD ν) : cI l yX5_best cX5_best 1 (some .int) 15 G [.ref (ra G 0)] ν (fun r ν' => r = (srch ν 0).1 ∧ dsk ν ν') := by
  refine cI_of (by decide +kernel) (Nat.le_of_ble_eq_true rfl) ?_
  intro p e s m args below meth c ls X hM hret hlk hl
  have hS : dS G s.heap s.heap [] := va_S.rf
  refine lv_aload_n X.1 X.2.1 dX5_best_0 rfl (lv_at hl 0 rfl) ?_
  refine tn_ic (v := 0) X dX5_best_1 (by decide) ?_
  refine kVV (As := [_]) X hM hS hl.1 (c_X5_searchSets hW) (by decide) (dE_desk G _) rfl rfl kl_X5_165 mf_X5_searchSets ⟨Nat.le_of_ble_eq_true rfl, Nat.le_of_ble_eq_true rfl⟩ ⟨Nat.zero_le _, Nat.zero_le _⟩ rfl (Nat.le_of_ble_eq_true rfl) dX5_best_2 (fun ν2 H locs hp2 hM hS => ?_)
  obtain ⟨hds, hs3⟩ := hp2
  refine lv_aload_n X.1 X.2.1 dX5_best_5 rfl (lv_at hl 0 rfl) ?_
  refine m_get (ci := 5) (C := RX5) (T := TX5) (N := 10) X hM inA5 (by decide) (dE_desk G _) rfl 4 (by decide) kl_X5_38 rfl rfl dX5_best_6 ?_
  refine m_getN (ci := 3) (C := RX3) (T := TX3) (N := 5) X hM inA3 (by decide) (dE_search G _) rfl 2 (by decide) kl_X5_168 rfl rfl dX5_best_9 ?_
  exact rI ⟨by rw [← hs3]; rfl, hds⟩ X hM hS hret hlk dX5_best_12

set_option maxHeartbeats 4000000 in
set_option maxRecDepth 100000 in
theorem c_X5_order {l : Launch} {G : dG} {ν : Mm} {o x : Nat} (hW : WD ν) (ho : o < ν 0 7) (hx : x < 5) : cI l yX5_order cX5_order 3 (some .int) 2 G [.ref (ra G 0), .int (nI o), .int (nI x)] ν (fun r ν' => r = tellF ν o x ∧ ν' = ν) := by
  refine cI_of (by decide +kernel) (Nat.le_of_ble_eq_true rfl) ?_
  intro p e s m args below meth c ls X hM hret hlk hl
  have hS : dS G s.heap s.heap [] := va_S.rf
  have hno := hW.no
  refine lv_aload_n X.1 X.2.1 dX5_order_0 rfl (lv_at hl 0 rfl) ?_
  refine lv_iload_n X.1 X.2.1 dX5_order_1 rfl (lv_at hl 1 rfl) ?_
  refine kVV (As := [_]) X hM hS hl.1 (c_X5_needOrder hW ho) (by decide) (dE_desk G _) rfl rfl kl_X5_194 mf_X5_needOrder ⟨Nat.le_of_ble_eq_true rfl, Nat.le_of_ble_eq_true rfl⟩ ⟨Nat.zero_le _, Nat.zero_le _⟩ rfl (Nat.le_of_ble_eq_true rfl) dX5_order_2 (fun ν2 H locs hp2 hM hS => ?_)
  replace hp2 := hp2.symm
  subst hp2
  refine lv_iload_n X.1 X.2.1 dX5_order_5 rfl (lv_at hl 2 rfl) ?_
  refine tn_lt0 (tgt := 14) X dX5_order_6 (by decide) (by omega) ?_
  refine lv_iload_n X.1 X.2.1 dX5_order_9 rfl (lv_at hl 2 rfl) ?_
  refine tn_ic (v := 5) X dX5_order_10 (by decide) ?_
  refine tn_lt (tgt := 24) X dX5_order_11 (by decide) (by omega) (by omega) (fun h11 => ?_) (fun h11 => ?_)
  · refine lv_aload_n X.1 X.2.1 dX5_order_24 rfl (lv_at hl 0 rfl) ?_
    refine m_get (ci := 5) (C := RX5) (T := TX5) (N := 10) X hM inA5 (by decide) (dE_desk G _) rfl 2 (by decide) kl_X5_24 rfl rfl dX5_order_25 ?_
    refine lv_iload_n X.1 X.2.1 dX5_order_28 rfl (lv_at hl 1 rfl) ?_
    refine m_aald 2 rfl X hM (by decide) (dE_orders G _) rfl (show o < 12 by omega) (by decide) dX5_order_29 ?_
    refine lv_iload_n X.1 X.2.1 dX5_order_30 rfl (lv_at hl 2 rfl) ?_
    refine kNI (As := [_]) X hM hS hl.1 (c_X2_tell (show o < 12 by omega) (by omega) (hW.cC (lotB_o (show o < 12 by omega)))) (by omega) (dE_ord (show o < 12 by omega) G _) rfl rfl kl_X5_217 mf_X2_tell ⟨Nat.le_of_ble_eq_true rfl, Nat.le_of_ble_eq_true rfl⟩ ⟨Nat.zero_le _, Nat.zero_le _⟩ rfl (Nat.le_of_ble_eq_true rfl) dX5_order_31 (fun r31 ν31 H locs hp31 hM hS => ?_)
    obtain ⟨rfl, e31⟩ := hp31
    replace e31 := e31.symm
    subst e31
    exact rI ⟨rfl, rfl⟩ X hM hS hret hlk dX5_order_34
  · exfalso; omega

set_option maxHeartbeats 4000000 in
set_option maxRecDepth 100000 in
theorem c_X5_pieces {l : Launch} {G : dG} {ν : Mm} {o a : Nat} (hW : WD ν) (ho : o < ν 0 7) (ha : a < ν 0 5) : cI l yX5_pieces cX5_pieces 3 (some .int) 1 G [.ref (ra G 0), .int (nI o), .int (nI a)] ν (fun r ν' => r = ν (31 + 5 * o + 3) a ∧ ν' = ν) := by
  refine cI_of (by decide +kernel) (Nat.le_of_ble_eq_true rfl) ?_
  intro p e s m args below meth c ls X hM hret hlk hl
  have hS : dS G s.heap s.heap [] := va_S.rf
  have hno := hW.no
  have hna := hW.na
  refine lv_aload_n X.1 X.2.1 dX5_pieces_0 rfl (lv_at hl 0 rfl) ?_
  refine lv_iload_n X.1 X.2.1 dX5_pieces_1 rfl (lv_at hl 1 rfl) ?_
  refine kVV (As := [_]) X hM hS hl.1 (c_X5_needOrder hW ho) (by decide) (dE_desk G _) rfl rfl kl_X5_194 mf_X5_needOrder ⟨Nat.le_of_ble_eq_true rfl, Nat.le_of_ble_eq_true rfl⟩ ⟨Nat.zero_le _, Nat.zero_le _⟩ rfl (Nat.le_of_ble_eq_true rfl) dX5_pieces_2 (fun ν2 H locs hp2 hM hS => ?_)
  replace hp2 := hp2.symm
  subst hp2
  refine lv_aload_n X.1 X.2.1 dX5_pieces_5 rfl (lv_at hl 0 rfl) ?_
  refine lv_iload_n X.1 X.2.1 dX5_pieces_6 rfl (lv_at hl 2 rfl) ?_
  refine kVV (As := [_]) X hM hS hl.1 (c_X5_needArticle hW ha) (by decide) (dE_desk G _) rfl rfl kl_X5_84 mf_X5_needArticle ⟨Nat.le_of_ble_eq_true rfl, Nat.le_of_ble_eq_true rfl⟩ ⟨Nat.zero_le _, Nat.zero_le _⟩ rfl (Nat.le_of_ble_eq_true rfl) dX5_pieces_7 (fun ν7 H locs hp7 hM hS => ?_)
  replace hp7 := hp7.symm
  subst hp7
  refine lv_aload_n X.1 X.2.1 dX5_pieces_10 rfl (lv_at hl 0 rfl) ?_
  refine m_get (ci := 5) (C := RX5) (T := TX5) (N := 10) X hM inA5 (by decide) (dE_desk G _) rfl 2 (by decide) kl_X5_24 rfl rfl dX5_pieces_11 ?_
  refine lv_iload_n X.1 X.2.1 dX5_pieces_14 rfl (lv_at hl 1 rfl) ?_
  refine m_aald 2 rfl X hM (by decide) (dE_orders G _) rfl (show o < 12 by omega) (by decide) dX5_pieces_15 ?_
  refine m_getN (ci := 2) (C := RX2) (T := TX2) (N := 4) X hM inA2 (by omega) (dE_ord (show o < 12 by omega) G _) rfl 0 (by decide) kl_X5_197 rfl rfl dX5_pieces_16 ?_
  refine m_getN (ci := 1) (C := RX1) (T := TX1) (N := 3) X hM inA1 (by have := lotB.lt (lotB_o (show o < 12 by omega)); omega) (dE_lot (lotB_o (show o < 12 by omega)) G _) rfl 2 (by decide) kl_X5_89 rfl rfl dX5_pieces_19 ?_
  refine lv_iload_n X.1 X.2.1 dX5_pieces_22 rfl (lv_at hl 2 rfl) ?_
  refine m_iald X hM (by have := lotB.lt (lotB_o (show o < 12 by omega)); omega) (dE_lotA (lotB_o (show o < 12 by omega)) (by decide) (by decide) G _) (by omega) (by decide) dX5_pieces_23 ?_
  exact rI ⟨rfl, rfl⟩ X hM hS hret hlk dX5_pieces_24
end
section
/-! ===== buy, in numbers ===== -/
theorem cpLot_ne {ν : Mm} {K L i : Nat} (h1 : i ≠ L + 1) (h2 : i ≠ L + 2) (h3 : i ≠ L + 3) : cpLot ν K L i = ν i := by
  unfold cpLot cp10
  rw [va_up_ne _ _ h3, va_up_ne _ _ h2, va_up_ne _ _ h1]
theorem alF_all {ν : Mm} {st j n : Nat} (h : alF ν st n = true) (hj : j < n) (hb : bt st j = 1) : usab ν j ∧ gf ν j (st &&& (2 ^ j - 1)) = true := by
  induction n with
  | zero => omega
  | succ n ih =>
    rw [alF_succ, Bool.and_eq_true] at h
    by_cases e : j = n
    · subst e
      have h2 := h.2
      rw [decide_eq_true hb] at h2
      simp only [Bool.not_true, Bool.false_or, Bool.and_eq_true] at h2
      exact ⟨of_decide_eq_true h2.1, h2.2⟩
    · exact ih h.1 (by omega)
theorem al_usab {ν : Mm} {st j : Nat} (h : al ν st = true) (hj : j < ν 0 6) (hb : bt st j = 1) : usab ν j := (alF_all h hj hb).1
theorem buy_dsk {ν μ : Mm} {st : Nat} (hq : ν 0 7 < 12) (h : dsk ν μ) : dsk (buyM ν st) (va_up (uuM (up2 (up2 (up2 (up2 (cpLot μ 1 (31 + 5 * ν 0 7)) (30 + 5 * ν 0 7) 1 st) (30 + 5 * ν 0 7) 2 (feF μ st (gdF ν 1 st))) (30 + 5 * ν 0 7) 3 (gdF ν 1 st)) 0 7 (ν 0 7 + 1)) st (up2 (up2 (up2 (up2 (cpLot μ 1 (31 + 5 * ν 0 7)) (30 + 5 * ν 0 7) 1 st) (30 + 5 * ν 0 7) 2 (feF μ st (gdF ν 1 st))) (30 + 5 * ν 0 7) 3 (gdF ν 1 st)) 0 7 (ν 0 7 + 1) 0 6)) (1 + 3) (fun a => if a < 10 then 0 else uuM (up2 (up2 (up2 (up2 (cpLot μ 1 (31 + 5 * ν 0 7)) (30 + 5 * ν 0 7) 1 st) (30 + 5 * ν 0 7) 2 (feF μ st (gdF ν 1 st))) (30 + 5 * ν 0 7) 3 (gdF ν 1 st)) 0 7 (ν 0 7 + 1)) st (up2 (up2 (up2 (up2 (cpLot μ 1 (31 + 5 * ν 0 7)) (30 + 5 * ν 0 7) 1 st) (30 + 5 * ν 0 7) 2 (feF μ st (gdF ν 1 st))) (30 + 5 * ν 0 7) 3 (gdF ν 1 st)) 0 7 (ν 0 7 + 1) 0 6) (1 + 3) a)) := by
  have e06 : up2 (up2 (up2 (up2 (cpLot μ 1 (31 + 5 * ν 0 7)) (30 + 5 * ν 0 7) 1 st) (30 + 5 * ν 0 7) 2 (feF μ st (gdF ν 1 st))) (30 + 5 * ν 0 7) 3 (gdF ν 1 st)) 0 7 (ν 0 7 + 1) 0 6 = ν 0 6 := by
    rw [up2_ne2 (by decide), up2_ne (by omega), up2_ne (by omega), up2_ne (by omega), cpLot_ne (by omega) (by omega) (by omega), h.d]
  rw [e06, h.feF]
  unfold buyM
  have h1 := (((((h.cp lotB_1 (lotB_o hq)).up (30 + 5 * ν 0 7) 1 st).up (30 + 5 * ν 0 7) 2 (feF ν st (gdF ν 1 st))).up (30 + 5 * ν 0 7) 3 (gdF ν 1 st)).up 0 7 (ν 0 7 + 1)).uu st (ν 0 6)
  exact h1.upR 4 (fun _ => by
    funext a
    show (if a < 10 then 0 else _) = (if a < 10 then 0 else _)
    rw [h1 (1 + 3) (by decide)])
end
section
/-! ===== CouponDesk: buy, giveBack ===== -/
set_option maxHeartbeats 4000000 in
set_option maxRecDepth 100000 in
theorem c_X5_buy {l : Launch} {G : dG} {ν : Mm} {st : Nat} (hW : WD ν) (hs : st < 2 ^ ν 0 6) (hal : al ν st = true) (hne : cnt ν 1 10 ≠ 0) (hno : ν 0 7 < 12) : cI l yX5_buy cX5_buy 4 (some .int) 6 G [.ref (ra G 0), .int (nI st)] ν (fun r ν' => r = ν 0 7 ∧ dsk (buyM ν st) ν') := by
  refine cI_of (by decide +kernel) (Nat.le_of_ble_eq_true rfl) ?_
  intro p e s m args below meth c ls X hM hret hlk hl
  have hS : dS G s.heap s.heap [] := va_S.rf
  have h256 := pow8 hW.nc
  have hgl := gdF_le hW lotB_1 st
  have h60 := hW.n60 lotB_1
  refine lv_aload_n X.1 X.2.1 dX5_buy_0 rfl (lv_at hl 0 rfl) ?_
  refine lv_iload_n X.1 X.2.1 dX5_buy_1 rfl (lv_at hl 1 rfl) ?_
  refine kVV (As := [_]) X hM hS hl.1 (c_X5_needCoupons hW hs) (by decide) (dE_desk G _) rfl rfl kl_X5_141 mf_X5_needCoupons ⟨Nat.le_of_ble_eq_true rfl, Nat.le_of_ble_eq_true rfl⟩ ⟨Nat.zero_le _, Nat.zero_le _⟩ rfl (Nat.le_of_ble_eq_true rfl) dX5_buy_2 (fun ν2 H locs hp2 hM hS => ?_)
  replace hp2 := hp2.symm
  subst hp2
  refine lv_aload_n X.1 X.2.1 dX5_buy_5 rfl (lv_at hl 0 rfl) ?_
  refine lv_iload_n X.1 X.2.1 dX5_buy_6 rfl (lv_at hl 1 rfl) ?_
  refine kVV (As := [_]) X hM hS hl.1 (c_X5_needAllowed hW (by omega) hal) (by decide) (dE_desk G _) rfl rfl kl_X5_148 mf_X5_needAllowed ⟨Nat.le_of_ble_eq_true rfl, Nat.le_of_ble_eq_true rfl⟩ ⟨Nat.zero_le _, Nat.zero_le _⟩ rfl (Nat.le_of_ble_eq_true rfl) dX5_buy_7 (fun ν7 H locs hp7 hM hS => ?_)
  replace hp7 := hp7.symm
  subst hp7
  refine lv_aload_n X.1 X.2.1 dX5_buy_10 rfl (lv_at hl 0 rfl) ?_
  refine m_get (ci := 5) (C := RX5) (T := TX5) (N := 10) X hM inA5 (by decide) (dE_desk G _) rfl 0 (by decide) kl_X5_12 rfl rfl dX5_buy_11 ?_
  refine kNI (As := []) X hM hS hl.1 (c_X1_countOfPieces lotB_1) (by have := lotB.lt lotB_1; omega) (dE_lot lotB_1 G _) rfl rfl kl_X5_177 mf_X1_countOfPieces ⟨Nat.le_of_ble_eq_true rfl, Nat.le_of_ble_eq_true rfl⟩ ⟨Nat.zero_le _, Nat.zero_le _⟩ rfl (Nat.le_of_ble_eq_true rfl) dX5_buy_14 (fun r14 ν14 H locs hp14 hM hS => ?_)
  obtain ⟨rfl, e14⟩ := hp14
  replace e14 := e14.symm
  subst e14
  refine tn_ne0 (tgt := 30) X dX5_buy_17 (by decide) (by omega) (fun h17 => ?_) (fun h17 => ?_)
  · refine lv_aload_n X.1 X.2.1 dX5_buy_30 rfl (lv_at hl 0 rfl) ?_
    refine m_get (ci := 5) (C := RX5) (T := TX5) (N := 10) X hM inA5 (by decide) (dE_desk G _) rfl 7 (by decide) kl_X5_49 rfl rfl dX5_buy_31 ?_
    refine tn_bi (v := 12) X dX5_buy_34 (by decide) ?_
    refine tn_lt (tgt := 49) X dX5_buy_36 (by decide) (by omega) (by omega) (fun h36 => ?_) (fun h36 => ?_)
    · refine lv_aload_n X.1 X.2.1 dX5_buy_49 rfl (lv_at hl 0 rfl) ?_
      refine m_get (ci := 5) (C := RX5) (T := TX5) (N := 10) X hM inA5 (by decide) (dE_desk G _) rfl 7 (by decide) kl_X5_49 rfl rfl dX5_buy_50 ?_
      refine lv_istore_n X.1 X.2.1 dX5_buy_53 rfl hl (by decide) rfl (fun ls hl => ?_)
      replace hl : lv_has ls 4 [(2, _), (0, _), (1, _)] := hl
      refine lv_aload_n X.1 X.2.1 dX5_buy_54 rfl (lv_at hl 1 rfl) ?_
      refine lv_aload_n X.1 X.2.1 dX5_buy_55 rfl (lv_at hl 1 rfl) ?_
      refine m_get (ci := 5) (C := RX5) (T := TX5) (N := 10) X hM inA5 (by decide) (dE_desk G _) rfl 0 (by decide) kl_X5_12 rfl rfl dX5_buy_56 ?_
      refine lv_iload_n X.1 X.2.1 dX5_buy_59 rfl (lv_at hl 2 rfl) ?_
      refine kVI (As := [_, _]) X hM hS hl.1 (c_X5_goodsOf hW lotB_1 (by omega)) (by decide) (dE_desk G _) rfl rfl kl_X5_151 mf_X5_goodsOf ⟨Nat.le_of_ble_eq_true rfl, Nat.le_of_ble_eq_true rfl⟩ ⟨Nat.zero_le _, Nat.zero_le _⟩ rfl (Nat.le_of_ble_eq_true rfl) dX5_buy_60 (fun r60 ν60 H locs hp60 hM hS => ?_)
      obtain ⟨rfl, hds, -⟩ := hp60
      have hWb := hds.WD hW
      have hd0 := hds.d
      refine lv_istore_n X.1 X.2.1 dX5_buy_63 rfl hl (by decide) rfl (fun ls hl => ?_)
      replace hl : lv_has ls 4 [(3, _), (2, _), (0, _), (1, _)] := hl
      refine lv_aload_n X.1 X.2.1 dX5_buy_64 rfl (lv_at hl 2 rfl) ?_
      refine m_get (ci := 5) (C := RX5) (T := TX5) (N := 10) X hM inA5 (by decide) (dE_desk G _) rfl 2 (by decide) kl_X5_24 rfl rfl dX5_buy_65 ?_
      refine lv_iload_n X.1 X.2.1 dX5_buy_68 rfl (lv_at hl 1 rfl) ?_
      refine m_aald 2 rfl X hM (by decide) (dE_orders G _) rfl (show ν 0 7 < 12 by omega) (by decide) dX5_buy_69 ?_
      refine lv_aload_n X.1 X.2.1 dX5_buy_70 rfl (lv_at hl 2 rfl) ?_
      refine m_get (ci := 5) (C := RX5) (T := TX5) (N := 10) X hM inA5 (by decide) (dE_desk G _) rfl 0 (by decide) kl_X5_12 rfl rfl dX5_buy_71 ?_
      refine lv_iload_n X.1 X.2.1 dX5_buy_74 rfl (lv_at hl 3 rfl) ?_
      refine lv_aload_n X.1 X.2.1 dX5_buy_75 rfl (lv_at hl 2 rfl) ?_
      refine lv_iload_n X.1 X.2.1 dX5_buy_76 rfl (lv_at hl 3 rfl) ?_
      refine lv_iload_n X.1 X.2.1 dX5_buy_77 rfl (lv_at hl 0 rfl) ?_
      refine kVI (As := [_, _]) X hM hS hl.1 (c_X5_feeFor hWb (by omega) (by omega)) (by decide) (dE_desk G _) rfl rfl kl_X5_155 mf_X5_feeFor ⟨Nat.le_of_ble_eq_true rfl, Nat.le_of_ble_eq_true rfl⟩ ⟨Nat.zero_le _, Nat.zero_le _⟩ rfl (Nat.le_of_ble_eq_true rfl) dX5_buy_78 (fun r78 ν78 H locs hp78 hM hS => ?_)
      obtain ⟨rfl, e78⟩ := hp78
      replace e78 := e78.symm
      subst e78
      refine lv_iload_n X.1 X.2.1 dX5_buy_81 rfl (lv_at hl 0 rfl) ?_
      refine kNV (As := [_, _, _, _]) X hM hS hl.1 (c_X2_become (show ν 0 7 < 12 by omega) lotB_1) (by omega) (dE_ord (show ν 0 7 < 12 by omega) G _) rfl rfl kl_X5_185 mf_X2_become ⟨Nat.le_of_ble_eq_true rfl, Nat.le_of_ble_eq_true rfl⟩ ⟨Nat.zero_le _, Nat.zero_le _⟩ rfl (Nat.le_of_ble_eq_true rfl) dX5_buy_82 (fun ν82 H locs hp82 hM hS => ?_)
      replace hp82 := hp82.symm
      subst hp82
      refine lv_aload_n X.1 X.2.1 dX5_buy_85 rfl (lv_at hl 2 rfl) ?_
      have eM0 : (up2 (up2 (up2 (cpLot ν60 1 (31 + 5 * ν 0 7)) (30 + 5 * ν 0 7) 1 st) (30 + 5 * ν 0 7) 2 (feF ν60 st (gdF ν 1 st))) (30 + 5 * ν 0 7) 3 (gdF ν 1 st)) 0 = ν 0 := by rw [up2_ne (by omega), up2_ne (by omega), up2_ne (by omega), cpLot_ne (by omega) (by omega) (by omega)]; exact hd0
      refine lv_dup X.1 X.2.1 dX5_buy_86 rfl ?_
      refine m_get (ci := 5) (C := RX5) (T := TX5) (N := 10) X hM inA5 (by decide) (dE_desk G _) rfl 7 (by decide) kl_X5_49 rfl rfl dX5_buy_87 ?_
      refine tn_as (show (up2 (up2 (up2 (cpLot ν60 1 (31 + 5 * ν 0 7)) (30 + 5 * ν 0 7) 1 st) (30 + 5 * ν 0 7) 2 (feF ν60 st (gdF ν 1 st))) (30 + 5 * ν 0 7) 3 (gdF ν 1 st)) 0 7 = ν 0 7 by rw [eM0]) ?_
      refine tn_ic (v := 1) X dX5_buy_90 (by decide) ?_
      refine tn_add X dX5_buy_91 ?_
      refine m_put (ci := 5) (C := RX5) (T := TX5) (N := 10) X hM hS inA5 tyX5_ok nmX5 (by decide) (dE_desk G _) rfl 7 (by decide) kl_X5_49 rfl rfl (by decide +kernel) (Nat.le_of_ble_eq_true rfl) (dE_desk G _) dX5_buy_92 (fun H locs hM hS => ?_)
      have hfe2 := feF_le hWb st (gdF ν 1 st)
      have hWu : WD (up2 (up2 (up2 (up2 (cpLot ν60 1 (31 + 5 * ν 0 7)) (30 + 5 * ν 0 7) 1 st) (30 + 5 * ν 0 7) 2 (feF ν60 st (gdF ν 1 st))) (30 + 5 * ν 0 7) 3 (gdF ν 1 st)) 0 7 (ν 0 7 + 1)) := by
        have hq : ν 0 7 < 12 := by omega
        have h1 := (((hWb.cp lotB_1 (lotB_o hq)).upA hq (show st < 256 by omega)).upF hq hfe2).upG hq hgl
        refine h1.upC (cOK_d ?_)
        have h2 := h1.2.2.2
        simp only [va_up] at h2 ⊢
        simp
        omega
      have e06 : up2 (up2 (up2 (up2 (cpLot ν60 1 (31 + 5 * ν 0 7)) (30 + 5 * ν 0 7) 1 st) (30 + 5 * ν 0 7) 2 (feF ν60 st (gdF ν 1 st))) (30 + 5 * ν 0 7) 3 (gdF ν 1 st)) 0 7 (ν 0 7 + 1) 0 6 = ν 0 6 := by rw [up2_ne2 (by decide), eM0]
      have huse : ∀ k, k < up2 (up2 (up2 (up2 (cpLot ν60 1 (31 + 5 * ν 0 7)) (30 + 5 * ν 0 7) 1 st) (30 + 5 * ν 0 7) 2 (feF ν60 st (gdF ν 1 st))) (30 + 5 * ν 0 7) 3 (gdF ν 1 st)) 0 7 (ν 0 7 + 1) 0 6 → bt st k = 1 → 0 < up2 (up2 (up2 (up2 (cpLot ν60 1 (31 + 5 * ν 0 7)) (30 + 5 * ν 0 7) 1 st) (30 + 5 * ν 0 7) 2 (feF ν60 st (gdF ν 1 st))) (30 + 5 * ν 0 7) 3 (gdF ν 1 st)) 0 7 (ν 0 7 + 1) (22 + k) 5 := fun k hk hb => by
        rw [e06] at hk
        have hk8 := hW.nc
        rw [up2_ne (by omega), up2_ne (by omega), up2_ne (by omega), up2_ne (by omega), cpLot_ne (by omega) (by omega) (by omega), hds.c]
        exact (al_usab hal hk hb).1
      refine lv_aload_n X.1 X.2.1 dX5_buy_95 rfl (lv_at hl 2 rfl) ?_
      refine lv_iload_n X.1 X.2.1 dX5_buy_96 rfl (lv_at hl 3 rfl) ?_
      refine kVV (As := [_]) X hM hS hl.1 (c_X5_useUp hWu (by omega) huse) (by decide) (dE_desk G _) rfl rfl kl_X5_188 mf_X5_useUp ⟨Nat.le_of_ble_eq_true rfl, Nat.le_of_ble_eq_true rfl⟩ ⟨Nat.zero_le _, Nat.zero_le _⟩ rfl (Nat.le_of_ble_eq_true rfl) dX5_buy_97 (fun ν97 H locs hp97 hM hS => ?_)
      replace hp97 := hp97.symm
      subst hp97
      refine lv_aload_n X.1 X.2.1 dX5_buy_100 rfl (lv_at hl 2 rfl) ?_
      refine m_get (ci := 5) (C := RX5) (T := TX5) (N := 10) X hM inA5 (by decide) (dE_desk G _) rfl 0 (by decide) kl_X5_12 rfl rfl dX5_buy_101 ?_
      refine kNV (As := []) X hM hS hl.1 (c_X1_removeAllPieces lotB_1) (by have := lotB.lt lotB_1; omega) (dE_lot lotB_1 G _) rfl rfl kl_X5_191 mf_X1_removeAllPieces ⟨Nat.le_of_ble_eq_true rfl, Nat.le_of_ble_eq_true rfl⟩ ⟨Nat.zero_le _, Nat.zero_le _⟩ rfl (Nat.le_of_ble_eq_true rfl) dX5_buy_104 (fun ν104 H locs hp104 hM hS => ?_)
      replace hp104 := hp104.symm
      subst hp104
      refine lv_iload_n X.1 X.2.1 dX5_buy_107 rfl (lv_at hl 1 rfl) ?_
      exact rI ⟨rfl, buy_dsk (by omega) hds⟩ X hM hS hret hlk dX5_buy_108
    · exfalso; omega
  · exact absurd h17 hne

set_option maxHeartbeats 4000000 in
set_option maxRecDepth 100000 in
theorem c_X5_giveBack {l : Launch} {G : dG} {ν : Mm} {o a n : Nat} (hW : WD ν) (ho : o < ν 0 7) (ha : a < ν 0 5) (h1n : 1 ≤ n) (hn : n ≤ ν (31 + 5 * o + 3) a) : cI l yX5_giveBack cX5_giveBack 7 (some .int) 6 G [.ref (ra G 0), .int (nI o), .int (nI a), .int (nI n)] ν (fun r ν' => r = gbR ν o a n ∧ dsk (gbM ν o a n) ν') := by
  refine cI_of (by decide +kernel) (Nat.le_of_ble_eq_true rfl) ?_
  intro p e s m args below meth c ls X hM hret hlk hl
  have hS : dS G s.heap s.heap [] := va_S.rf
  have hno := hW.no
  have hna := hW.na
  have hc6 := hW.c6 (lotB_o (show o < 12 by omega)) a (by omega)
  have hpaid := (hW.2.2.1 o (by omega)).2.2
  refine lv_aload_n X.1 X.2.1 dX5_giveBack_0 rfl (lv_at hl 0 rfl) ?_
  refine lv_iload_n X.1 X.2.1 dX5_giveBack_1 rfl (lv_at hl 1 rfl) ?_
  refine kVV (As := [_]) X hM hS hl.1 (c_X5_needOrder hW ho) (by decide) (dE_desk G _) rfl rfl kl_X5_194 mf_X5_needOrder ⟨Nat.le_of_ble_eq_true rfl, Nat.le_of_ble_eq_true rfl⟩ ⟨Nat.zero_le _, Nat.zero_le _⟩ rfl (Nat.le_of_ble_eq_true rfl) dX5_giveBack_2 (fun ν2 H locs hp2 hM hS => ?_)
  replace hp2 := hp2.symm
  subst hp2
  refine lv_aload_n X.1 X.2.1 dX5_giveBack_5 rfl (lv_at hl 0 rfl) ?_
  refine lv_iload_n X.1 X.2.1 dX5_giveBack_6 rfl (lv_at hl 2 rfl) ?_
  refine kVV (As := [_]) X hM hS hl.1 (c_X5_needArticle hW ha) (by decide) (dE_desk G _) rfl rfl kl_X5_84 mf_X5_needArticle ⟨Nat.le_of_ble_eq_true rfl, Nat.le_of_ble_eq_true rfl⟩ ⟨Nat.zero_le _, Nat.zero_le _⟩ rfl (Nat.le_of_ble_eq_true rfl) dX5_giveBack_7 (fun ν7 H locs hp7 hM hS => ?_)
  replace hp7 := hp7.symm
  subst hp7
  refine lv_aload_n X.1 X.2.1 dX5_giveBack_10 rfl (lv_at hl 0 rfl) ?_
  refine m_get (ci := 5) (C := RX5) (T := TX5) (N := 10) X hM inA5 (by decide) (dE_desk G _) rfl 2 (by decide) kl_X5_24 rfl rfl dX5_giveBack_11 ?_
  refine lv_iload_n X.1 X.2.1 dX5_giveBack_14 rfl (lv_at hl 1 rfl) ?_
  refine m_aald 2 rfl X hM (by decide) (dE_orders G _) rfl (show o < 12 by omega) (by decide) dX5_giveBack_15 ?_
  refine lv_astore X.1 X.2.1 dX5_giveBack_16 hl (by decide) rfl (fun ls hl => ?_)
  replace hl : lv_has ls 7 [(4, _), (0, _), (1, _), (2, _), (3, _)] := hl
  refine lv_iload_n X.1 X.2.1 dX5_giveBack_18 rfl (lv_at hl 4 rfl) ?_
  refine tn_ic (v := 1) X dX5_giveBack_19 (by decide) ?_
  refine tn_lt (tgt := 37) X dX5_giveBack_20 (by decide) (by omega) (by omega) (fun h20 => ?_) (fun h20 => ?_)
  · exfalso; omega
  · refine lv_iload_n X.1 X.2.1 dX5_giveBack_23 rfl (lv_at hl 4 rfl) ?_
    refine lv_aload X.1 X.2.1 dX5_giveBack_24 (lv_at hl 0 rfl) ?_
    refine m_getN (ci := 2) (C := RX2) (T := TX2) (N := 4) X hM inA2 (by omega) (dE_ord (show o < 12 by omega) G _) rfl 0 (by decide) kl_X5_197 rfl rfl dX5_giveBack_26 ?_
    refine m_getN (ci := 1) (C := RX1) (T := TX1) (N := 3) X hM inA1 (by have := lotB.lt (lotB_o (show o < 12 by omega)); omega) (dE_lot (lotB_o (show o < 12 by omega)) G _) rfl 2 (by decide) kl_X5_89 rfl rfl dX5_giveBack_29 ?_
    refine lv_iload_n X.1 X.2.1 dX5_giveBack_32 rfl (lv_at hl 3 rfl) ?_
    refine m_iald X hM (by have := lotB.lt (lotB_o (show o < 12 by omega)); omega) (dE_lotA (lotB_o (show o < 12 by omega)) (by decide) (by decide) G _) (by omega) (by decide) dX5_giveBack_33 ?_
    refine tn_le (tgt := 47) X dX5_giveBack_34 (by decide) (by omega) (by omega) (fun h34 => ?_) (fun h34 => ?_)
    · refine lv_aload X.1 X.2.1 dX5_giveBack_47 (lv_at hl 0 rfl) ?_
      refine m_getN (ci := 2) (C := RX2) (T := TX2) (N := 4) X hM inA2 (by omega) (dE_ord (show o < 12 by omega) G _) rfl 0 (by decide) kl_X5_197 rfl rfl dX5_giveBack_49 ?_
      refine m_getN (ci := 1) (C := RX1) (T := TX1) (N := 3) X hM inA1 (by have := lotB.lt (lotB_o (show o < 12 by omega)); omega) (dE_lot (lotB_o (show o < 12 by omega)) G _) rfl 2 (by decide) kl_X5_89 rfl rfl dX5_giveBack_52 ?_
      refine lv_iload_n X.1 X.2.1 dX5_giveBack_55 rfl (lv_at hl 3 rfl) ?_
      refine lv_dup2_11 X.1 X.2.1 dX5_giveBack_56 rfl rfl ?_
      refine m_iald X hM (by have := lotB.lt (lotB_o (show o < 12 by omega)); omega) (dE_lotA (lotB_o (show o < 12 by omega)) (by decide) (by decide) G _) (by omega) (by decide) dX5_giveBack_57 ?_
      refine lv_iload_n X.1 X.2.1 dX5_giveBack_58 rfl (lv_at hl 4 rfl) ?_
      refine tn_sub X dX5_giveBack_59 (by omega) ?_
      refine m_iast X hM hS (by have := lotB.lt (lotB_o (show o < 12 by omega)); omega) (fun _ => (dE_lotA (lotB_o (show o < 12 by omega)) (by decide) (by decide) G _)) (by omega) (by decide) dX5_giveBack_60 (fun H locs hM hS => ?_)
      have hW1 : WD (gb1 ν o a n) := hW.upN (lotB_o (show o < 12 by omega)) (by omega)
      have hM : dM G (gb1 ν o a n) H := hM
      have e06 : gb1 ν o a n 0 6 = ν 0 6 := by unfold gb1; rw [up2_ne (by omega)]
      refine lv_aload X.1 X.2.1 dX5_giveBack_61 (lv_at hl 0 rfl) ?_
      refine lv_aload_n X.1 X.2.1 dX5_giveBack_63 rfl (lv_at hl 1 rfl) ?_
      refine lv_aload X.1 X.2.1 dX5_giveBack_64 (lv_at hl 0 rfl) ?_
      refine kVI (As := [_]) X hM hS hl.1 (c_X5_stillReached hW1 (show o < 12 by omega)) (by decide) (dE_desk G _) rfl rfl kl_X5_202 mf_X5_stillReached ⟨Nat.le_of_ble_eq_true rfl, Nat.le_of_ble_eq_true rfl⟩ ⟨Nat.zero_le _, Nat.zero_le _⟩ rfl (Nat.le_of_ble_eq_true rfl) dX5_giveBack_66 (fun r66 ν66 H locs hp66 hM hS => ?_)
      obtain ⟨rfl, e66⟩ := hp66
      replace e66 := e66.symm
      subst e66
      refine m_putN (ci := 2) (C := RX2) (T := TX2) (N := 4) X hM hS inA2 tyX2_ok nmX2 (by omega) (dE_ord (show o < 12 by omega) G _) rfl 1 (by decide) kl_X5_206 rfl rfl (by decide +kernel) (Nat.le_of_ble_eq_true rfl) (dE_ord (show o < 12 by omega) G _) dX5_giveBack_69 (fun H locs hM hS => ?_)
      have hsr : srF (gb1 ν o a n) o (gb1 ν o a n 0 6) < 256 := Nat.lt_of_lt_of_le (srF_lt _) (pow8 hW1.nc)
      have hW2 : WD (gb2 ν o a n) := hW1.upA (show o < 12 by omega) (by rw [← e06]; exact hsr)
      have hM : dM G (gb2 ν o a n) H := by unfold gb2; rw [← e06]; exact hM
      have eAct : gb2 ν o a n (30 + 5 * o) 1 = srF (gb1 ν o a n) o (ν 0 6) := up2_at _ _ _ _
      rw [e06] at hsr
      refine lv_aload_n X.1 X.2.1 dX5_giveBack_72 rfl (lv_at hl 1 rfl) ?_
      refine lv_aload X.1 X.2.1 dX5_giveBack_73 (lv_at hl 0 rfl) ?_
      refine m_getN (ci := 2) (C := RX2) (T := TX2) (N := 4) X hM inA2 (by omega) (dE_ord (show o < 12 by omega) G _) rfl 0 (by decide) kl_X5_197 rfl rfl dX5_giveBack_75 ?_
      refine lv_aload X.1 X.2.1 dX5_giveBack_78 (lv_at hl 0 rfl) ?_
      refine m_getN (ci := 2) (C := RX2) (T := TX2) (N := 4) X hM inA2 (by omega) (dE_ord (show o < 12 by omega) G _) rfl 1 (by decide) kl_X5_206 rfl rfl dX5_giveBack_80 ?_
      refine kVI (As := [_, _]) X hM hS hl.1 (c_X5_goodsOf hW2 (lotB_o (show o < 12 by omega)) (by rw [eAct]; omega)) (by decide) (dE_desk G _) rfl rfl kl_X5_151 mf_X5_goodsOf ⟨Nat.le_of_ble_eq_true rfl, Nat.le_of_ble_eq_true rfl⟩ ⟨Nat.zero_le _, Nat.zero_le _⟩ rfl (Nat.le_of_ble_eq_true rfl) dX5_giveBack_83 (fun r83 ν83 H locs hp83 hM hS => ?_)
      obtain ⟨rfl, hds, -⟩ := hp83
      refine lv_istore X.1 X.2.1 dX5_giveBack_86 hl (by decide) rfl (fun ls hl => ?_)
      replace hl : lv_has ls 7 [(5, _), (4, _), (0, _), (1, _), (2, _), (3, _)] := hl
      have hgl := gdF_le hW2 (lotB_o (show o < 12 by omega)) (gb2 ν o a n (30 + 5 * o) 1)
      have e3 : ν83 (30 + 5 * o) 3 = ν (30 + 5 * o) 3 := by rw [hds.o]; unfold gb2 gb1; rw [up2_ne2 (by decide), up2_ne (by omega)]
      have eG : gdF (gb2 ν o a n) (31 + 5 * o) (gb2 ν o a n (30 + 5 * o) 1) = gbG ν o a n := by rw [eAct]; rfl
      refine lv_iload X.1 X.2.1 dX5_giveBack_88 (lv_at hl 0 rfl) ?_
      refine lv_aload X.1 X.2.1 dX5_giveBack_90 (lv_at hl 1 rfl) ?_
      refine m_getN (ci := 2) (C := RX2) (T := TX2) (N := 4) X hM inA2 (by omega) (dE_ord (show o < 12 by omega) G _) rfl 3 (by decide) kl_X5_209 rfl rfl dX5_giveBack_92 ?_
      refine tn_lt (tgt := 100) X dX5_giveBack_95 (by decide) (by omega) (by rw [e3]; omega) (fun h95 => ?_) (fun h95 => ?_)
      · refine lv_aload X.1 X.2.1 dX5_giveBack_100 (lv_at hl 1 rfl) ?_
        refine m_getN (ci := 2) (C := RX2) (T := TX2) (N := 4) X hM inA2 (by omega) (dE_ord (show o < 12 by omega) G _) rfl 3 (by decide) kl_X5_209 rfl rfl dX5_giveBack_102 ?_
        refine lv_iload X.1 X.2.1 dX5_giveBack_105 (lv_at hl 0 rfl) ?_
        refine tn_sub X dX5_giveBack_107 (by omega) ?_
        refine lv_istore X.1 X.2.1 dX5_giveBack_108 hl (by decide) rfl (fun ls hl => ?_)
        replace hl : lv_has ls 7 [(6, _), (5, _), (4, _), (0, _), (1, _), (2, _), (3, _)] := hl
        refine lv_aload X.1 X.2.1 dX5_giveBack_110 (lv_at hl 2 rfl) ?_
        refine lv_iload X.1 X.2.1 dX5_giveBack_112 (lv_at hl 1 rfl) ?_
        refine m_putN (ci := 2) (C := RX2) (T := TX2) (N := 4) X hM hS inA2 tyX2_ok nmX2 (by omega) (dE_ord (show o < 12 by omega) G _) rfl 3 (by decide) kl_X5_209 rfl rfl (by decide +kernel) (Nat.le_of_ble_eq_true rfl) (dE_ord (show o < 12 by omega) G _) dX5_giveBack_114 (fun H locs hM hS => ?_)
        refine lv_iload X.1 X.2.1 dX5_giveBack_117 (lv_at hl 0 rfl) ?_
        exact rI ⟨by unfold gbR; rw [if_neg (by rw [← eG, ← e3]; omega), ← eG, e3], by unfold gbM; rw [if_neg (by rw [← eG, ← e3]; omega), ← eG]; exact hds.up _ _ _⟩ X hM hS hret hlk dX5_giveBack_119
      · refine tn_ic (v := 0) X dX5_giveBack_98 (by decide) ?_
        exact rI ⟨(if_pos (by rw [← eG, ← e3]; exact h95)).symm, by unfold gbM; rw [if_pos (by rw [← eG, ← e3]; exact h95)]; exact hds⟩ X hM hS hret hlk dX5_giveBack_99
    · exfalso; omega
end
section
/-! ===== making: the first k cells at the base ===== -/
def vAOA (U : State) : Prop := (Cond.arrayOver (.array .int)).before #[] U = true
theorem vAOA.moved {u U : State} (hvm : u.vm.Alike U.vm) (h : vAOA u) : vAOA U := by
  have h1 : (Cond.arrayOver (.array .int)).before #[] (u.setVm U.vm) = true := by rw [Cond.arrayOver_setVmC hvm]; exact h
  unfold vAOA
  unfold Cond.before Cond.holds at h1 ⊢
  simp only [Cond.value] at h1 ⊢
  exact h1
/-- what the tables say of rows of references -/
def NA (U : State) : Prop := va_AO RX0 U ∧ va_AO RX2 U ∧ vAOA U
theorem NA.moved {u U : State} (hvm : u.vm.Alike U.vm) (h : NA u) : NA U := ⟨h.1.moved hvm, h.2.1.moved hvm, h.2.2.moved hvm⟩
def pM (G : dG) (E : Nat → va_E) (k : Nat) (H : Heap) : Prop := H.size = G.2.2 + k ∧ ∀ i, i < k → va_at G.1 dkCl (ra G i, E i) H
def pA (G : dG) : Nat → Prop := fun q => G.2.2 ≤ q
abbrev pS (G : dG) (H0 H : Heap) (locs : List Loc) : Prop := va_S (pA G) H0 H locs
theorem pM.size {G : dG} {E : Nat → va_E} {k : Nat} {H : Heap} (h : pM G E k H) : H.size = ra G k := h.1
theorem pM.up {G : dG} {E : Nat → va_E} {k i : Nat} {e : va_E} {H H1 : Heap} (h : pM G E k H) (hi : i < k) (he : va_at G.1 dkCl (ra G i, e) H1) (z : H1.size = H.size) (o : ∀ q : Nat, q ≠ ra G i → H1[q]? = H[q]?) : pM G (va_up E i e) k H1 := by
  refine ⟨z.trans h.1, fun j hj => ?_⟩
  by_cases e1 : j = i
  · subst e1; rw [va_up_self]; exact he
  · rw [va_up_ne _ _ e1]
    exact (h.2 j hj).kept (o _ (fun q => e1 (ra_inj q)))
theorem pM.push {G : dG} {E : Nat → va_E} {k : Nat} {e : va_E} {H H1 : Heap} (h : pM G E k H) (he : va_at G.1 dkCl (ra G k, e) H1) (z : H1.size = H.size + 1) (o : ∀ q : Nat, q < H.size → H1[q]? = H[q]?) : pM G (va_up E k e) (k + 1) H1 := by
  refine ⟨by rw [z, h.1]; omega, fun j hj => ?_⟩
  by_cases e1 : j = k
  · subst e1; rw [va_up_self]; exact he
  · rw [va_up_ne _ _ e1]
    exact (h.2 j (by omega)).kept (o _ (by rw [h.1]; show ra G j < _; unfold ra; omega))
theorem pS.grow {G : dG} {H0 H H1 : Heap} {locs : List Loc} (h : pS G H0 H locs) (z : H.size ≤ H1.size) (o : ∀ q : Nat, q < H.size → H1[q]? = H[q]?) : pS G H0 H1 locs :=
  ⟨Nat.le_trans h.1 z, fun x h1 h2 => (o x (Nat.lt_of_lt_of_le h1 h.1)).trans (h.2.1 x h1 h2), h.2.2⟩
theorem pA_ra (G : dG) (i : Nat) : pA G (ra G i) := Nat.le_add_right _ _
theorem vs_outer (c : ClassId) (N h0 : Nat) : ∀ i : Nat, Jvm.Free.Multi.outerC c N h0 i = arrV c N (fun j => va_rf (if j < i then some (h0 + 1 + j) else none))
  | 0 => by
    show ({ cls := c, slots := Array.replicate N .null, vm := .none } : Cell) = _
    rw [arrV_new]
    refine congrArg (arrV c N) (funext fun j => ?_)
    simp [va_rf]
  | i + 1 => by
    show (Jvm.Free.Multi.outerC c N h0 i).setSlot i (.ref (h0 + 1 + i)) = _
    rw [vs_outer c N h0 i, arrV_store]
    refine congrArg (arrV c N) (funext fun j => ?_)
    by_cases e : j = i
    · subst e
      simp [updV, va_rf]
    · by_cases h : j < i
      · simp [updV, e, h, Nat.lt_succ_of_lt h]
      · simp [updV, e, h, show ¬ j < i + 1 by omega]
section RW6
variable {p : Program} {l : Launch} {e : Env} {R : Room} {s : State} {m : MethodId} {args : Array Value} {below : List Frame} {meth : Method} {c : Code} {H : Heap} {locs : List Loc} {cells slots : Nat} {Q : State → Prop}
variable {cc : ByteArray} {pc n : Nat} {ls : Array Slot} {rest : List Value} {own : String} {G : dG} {E : Nat → va_E} {k : Nat} {H0 : Heap}
theorem p_put {ref C : String} {T : u_T} {N ci index i : Nat} {fs fs' : List Value} {v : Value} {ty : FieldType} {ty0 : Nat → FieldType} (X : dC p s m args c cc n own G) (hP : pM G E k H) (hS : pS G H0 H locs) (hin : ∀ w ∈ u_ws C T N, w ∈ allW) (hty : ∀ k, k < N → parseFieldDescriptor (T k).2.2.1 = some (ty0 k)) (hnm : ∀ a, a < N → ∀ b, b < N → a ≠ b → (T a).2.1 ≠ (T b).2.1) (hi0 : i < k) (hE : E i = .inr (ci, fs)) (hc : dkCl[ci]? = some (C, T, N)) (f : Nat) (hf : f < N) (hlink : Cond.fieldLink own index ref (T f).2.1 (T f).2.2.1 ∈ allW) (hr : ref = (T f).1) (hfin : (T f).2.2.2 = false) (hd : parseFieldDescriptor (T f).2.2.1 = some ty) (hn : narrow ty v = v) (hfit : fits ty v = true) (hl : f < fs.length) (hfs : fs.set f v = fs')
    (hdg : decode cc pc = .ok (.putfield index, 3)) (kk : ∀ (H1 : Heap) (locs1 : List Loc), pM G (va_up E i (.inr (ci, fs'))) k H1 → pS G H0 H1 locs1 → W p l e R s m args below meth c H1 locs1 cells slots Q (F0 m (pc + 3) ls rest)) : W p l e R s m args below meth c H locs cells slots Q (F0 m pc ls (v :: .ref (ra G i) :: rest)) := by
  subst hfs
  obtain ⟨hx, hb, -, hown, hts, hK⟩ := X
  have hK := hK.1
  subst hr
  have hap := va_apart (own := own) hts hin ty0 hty hnm hK hc
  have h0 := hP.2 i hi0
  rw [hE] at h0
  obtain ⟨r, h1, cell, q1, q2, q3, q4⟩ := h0
  have hr : r = (C, T, N) := Option.some.inj (h1.symm.trans hc)
  subst hr
  obtain ⟨hSS, hfc, kC, hkC, hkind⟩ := hK.1 ci _ hc
  obtain ⟨cf, kf, fi, fd, hi, hsl⟩ := hSS f hf
  have hlay := hts _ (hin _ (u_in_lay hf))
  unfold u_lay at hlay
  rw [if_neg (by rw [hfin]; decide)] at hlay
  have hst := (u_facts hfc hkC (u_lays hts hin hf) hi).1
  have h6 := u_store hfc hkC hkind hlay hi hd hn hfit
  refine W.putK hx hb (f := fd) ⟨hown, hts _ hlink, ⟨_, _, _, hi⟩, hst⟩ (by rw [q2]; exact h6) q1 q3 (by rw [hsl]; exact k2_hasslot (q4 f hf)) rfl rfl hdg fun H' e1 e2 e3 => ?_
  rw [hsl] at e1 ⊢
  exact kk H' _ (hP.up hi0 ⟨_, hc, t_OB.to (V := updV (vp_V fs) f v) ⟨_, e1, q2, q3, t_set q4 hap hf v⟩ (fun j _ => vp_updV_set hl v j)⟩ e2 e3) (hS.put e2 e3 (pA_ra G i))
theorem p_putF {C : String} {T : u_T} {N ci index i : Nat} {fs fs' : List Value} {v : Value} {ty : FieldType} {ty0 : Nat → FieldType} (X : dC p s m args c cc n own G) (hini : meth.name = "<init>") (hP : pM G E k H) (hS : pS G H0 H locs) (hin : ∀ w ∈ u_ws C T N, w ∈ allW) (hty : ∀ k, k < N → parseFieldDescriptor (T k).2.2.1 = some (ty0 k)) (hnm : ∀ a, a < N → ∀ b, b < N → a ≠ b → (T a).2.1 ≠ (T b).2.1) (hi0 : i < k) (hE : E i = .inr (ci, fs)) (hc : dkCl[ci]? = some (C, T, N)) (f : Nat) (hf : f < N) (hlink : Cond.fieldLink own index (T f).1 (T f).2.1 (T f).2.2.1 ∈ allW) (hdecl : (T f).1 = own) (hfin : (T f).2.2.2 = true) (hd : parseFieldDescriptor (T f).2.2.1 = some ty) (hn : narrow ty v = v) (hfit : fits ty v = true) (hl : f < fs.length) (hfs : fs.set f v = fs')
    (hdg : decode cc pc = .ok (.putfield index, 3)) (kk : ∀ (H1 : Heap) (locs1 : List Loc), pM G (va_up E i (.inr (ci, fs'))) k H1 → pS G H0 H1 locs1 → W p l e R s m args below meth c H1 locs1 cells slots Q (F0 m (pc + 3) ls rest)) : W p l e R s m args below meth c H locs cells slots Q (F0 m pc ls (v :: .ref (ra G i) :: rest)) := by
  subst hfs
  obtain ⟨hx, hb, -, hown, hts, hK⟩ := X
  have hK := hK.1
  have hap := va_apart (own := own) hts hin ty0 hty hnm hK hc
  have h0 := hP.2 i hi0
  rw [hE] at h0
  obtain ⟨r, h1, cell, q1, q2, q3, q4⟩ := h0
  have hr : r = (C, T, N) := Option.some.inj (h1.symm.trans hc)
  subst hr
  obtain ⟨hSS, hfc, kC, hkC, hkind⟩ := hK.1 ci _ hc
  obtain ⟨cf, kf, fi, fd, hi, hsl⟩ := hSS f hf
  have hlay := hts _ (hin _ (u_in_lay hf))
  unfold u_lay at hlay
  rw [if_pos hfin] at hlay
  have hst := (u_facts hfc hkC (u_lays hts hin hf) hi).1
  have hcf : m.cls = cf := by
    obtain ⟨_, _, c', _, _, _, -, -, hf', -, -, -, hown2, -⟩ := Cond.laysFinal_spec hlay
    have e1 : c' = cf := by have := hi.symm.trans hf'; simp at this; exact this.1.symm
    rw [hdecl] at hown2
    rw [← e1]; exact Option.some.inj (hown.symm.trans hown2)
  have h6 := u_fits hfc hkC hkind (Or.inr hlay) hi hd hn hfit
  refine W.putFinK hx hb hown (hts _ hlink) hi hst hcf hini (by rw [q2]; exact h6) q1 q3 (by rw [hsl]; exact k2_hasslot (q4 f hf)) rfl rfl hdg fun H' e1 e2 e3 => ?_
  rw [hsl] at e1 ⊢
  exact kk H' _ (hP.up hi0 ⟨_, hc, t_OB.to (V := updV (vp_V fs) f v) ⟨_, e1, q2, q3, t_set q4 hap hf v⟩ (fun j _ => vp_updV_set hl v j)⟩ e2 e3) (hS.put e2 e3 (pA_ra G i))
theorem p_new {C : String} {T : u_T} {N ci index : Nat} {fs : List Value} {ty : Nat → FieldType} (X : dC p s m args c cc n own G) (hP : pM G E k H) (hS : pS G H0 H locs) (hin : ∀ w ∈ u_ws C T N, w ∈ allW) (hty : ∀ k, k < N → parseFieldDescriptor (T k).2.2.1 = some (ty k)) (hcl : Cond.classLink own index C ∈ allW) (hinst : Cond.instantiable C N ∈ allW) (hini : Cond.initialized C ∈ allW) (hc : dkCl[ci]? = some (C, T, N)) (hfs : ∀ j, j < N → defaultValue (ty j) = vp_V fs j) (hcells : cells + 1 ≤ R.cells) (hslots : slots + N ≤ R.slots) (hdg : decode cc pc = .ok (.new index, 3))
    (kk : ∀ (H1 : Heap), pM G (va_up E k (.inr (ci, fs))) (k + 1) H1 → pS G H0 H1 locs → W p l e R s m args below meth c H1 locs (cells + 1) (slots + N) Q (F0 m (pc + 3) ls (.ref (ra G k) :: rest))) : W p l e R s m args below meth c H locs cells slots Q (F0 m pc ls rest) := by
  obtain ⟨hx, hb, -, hown, hts, hK⟩ := X
  have hKn := hK.1.1 ci _ hc
  refine W.newcK hx hb hown (hts _ hcl) (hts _ hinst) (hts _ hini) rfl hdg hcells hslots hKn.2.1 hP.size fun H1 kC hkC e1 z1 o1 => ?_
  have o2 : ∀ q : Nat, q < H.size → H1[q]? = H[q]? := fun q hq => o1 q (by rw [← hP.size]; exact hq)
  exact kk H1 (hP.push ⟨_, hc, (u_born ty hts hin hKn hkC e1 hty).to hfs⟩ (by rw [z1, hP.size]) o2) (pS.grow hS (by rw [z1, hP.size]; omega) o2)
theorem p_newI {N : Nat} (X : dC p s m args c cc n own G) (hP : pM G E k H) (hS : pS G H0 H locs) (harr : Cond.arrayClass .int ∈ allW) (hN : N < 2 ^ 27) (hcells : cells + 1 ≤ R.cells) (hslots : slots + N ≤ R.slots) (hdg : decode cc pc = .ok (.newarray .int, 2))
    (kk : ∀ (H1 : Heap), pM G (va_up E k (aI G N (fun _ => 0))) (k + 1) H1 → pS G H0 H1 locs → W p l e R s m args below meth c H1 locs (cells + 1) (slots + N) Q (F0 m (pc + 2) ls (.ref (ra G k) :: rest))) : W p l e R s m args below meth c H locs cells slots Q (F0 m pc ls (.int (nI N) :: rest)) := by
  obtain ⟨hx, hb, -, hown, hts, hK⟩ := X
  refine va_newaK hx hb (atype := .int) (hts _ harr) rfl hdg rfl (nI_pos (by omega)) (nI_clamp (by omega)) (by show N * 4 ≤ 536870912; omega) hcells hslots hP.size fun H1 cA e1 z1 o1 hAr hNm => ?_
  have hcA : cA = G.2.1.1 := by
    have h2 : s.vm.findClass ("[" ++ FieldType.int.toString) = some G.2.1.1 := (hK.1.2 0 _ rfl).2
    exact Option.some.inj (hNm.symm.trans h2)
  subst hcA
  have o2 : ∀ q : Nat, q < H.size → H1[q]? = H[q]? := fun q hq => o1 q (by rw [← hP.size]; exact hq)
  exact kk H1 (hP.push e1 (by rw [z1, hP.size]) o2) (pS.grow hS (by rw [z1, hP.size]; omega) o2)
theorem p_newq {C : String} {index N t0 : Nat} {cA : ClassId} (X : dC p s m args c cc n own G) (hP : pM G E k H) (hS : pS G H0 H locs) (hcl : Cond.classLink own index C ∈ allW) (hao : va_AO C s) (ht : (dT G)[t0]? = some (cA, .object C)) (hN : N < 2 ^ 27) (hcells : cells + 1 ≤ R.cells) (hslots : slots + N ≤ R.slots) (hdg : decode cc pc = .ok (.anewarray index, 3))
    (kk : ∀ (H1 : Heap), pM G (va_up E k (.inl (cA, N, .inr (.inr (.inr (.inr (fun _ => none))))))) (k + 1) H1 → pS G H0 H1 locs → W p l e R s m args below meth c H1 locs (cells + 1) (slots + N) Q (F0 m (pc + 3) ls (.ref (ra G k) :: rest))) : W p l e R s m args below meth c H locs cells slots Q (F0 m pc ls (.int (nI N) :: rest)) := by
  obtain ⟨hx, hb, -, hown, hts, hK⟩ := X
  have hc : (nI N).toNatClampNeg = N := nI_clamp (by omega)
  refine W.anew hx hb hown (hts _ hcl) (va_AO.use hao) rfl hdg rfl (nI_pos (by omega)) (by rw [hc]; omega) hcells (by rw [hc]; exact hslots) fun cA' kA comp f1 f2 f3 f4 => ?_
  have hcA : cA' = cA := by
    obtain ⟨kA2, comp2, k1, k2, k3, k4⟩ := (hK.1.2 t0 _ ht).2
    exact Option.some.inj (f1.symm.trans k4)
  subst hcA
  rw [hc]
  generalize hH1 : H.push ({ cls := cA', slots := Array.replicate N .null, vm := .none } : Cell) = H1
  have z1 : H1.size = H.size + 1 := by rw [← hH1, Array.size_push]
  have e1 : H1[H.size]? = some (arrV cA' N (fun _ => .null)) := by rw [← hH1, Array.getElem?_push_size, ← arrV_new]
  have o1 : ∀ q : Nat, q < H.size → H1[q]? = H[q]? := fun q hq => by rw [← hH1, Array.getElem?_push, if_neg (Nat.ne_of_lt hq)]
  have es := hP.size
  rw [es] at e1 ⊢
  exact kk H1 (hP.push e1 z1 o1) (pS.grow hS (by omega) o1)
/-- new int[N][K] -/
theorem p_mna {index N K : Nat} (X : dC p s m args c cc n own G) (hP : pM G E k H) (hS : pS G H0 H locs) (hcl : Cond.classLink own index "[[I" ∈ allW) (hao : vAOA s) (harr : Cond.arrayClass .int ∈ allW) (hN : N < 2 ^ 27) (hKK : K < 2 ^ 27) (hcells : cells + (1 + N) ≤ R.cells) (hslots : slots + (N + N * K) ≤ R.slots) (hdg : decode cc pc = .ok (.multianewarray index 2, 4))
    (kk : ∀ (H1 : Heap), pM G (fun i => if i < k then E i else if i = k then .inl (G.2.1.2.2.2, N, .inr (.inr (.inr (.inr (fun j => if j < N then some (ra G (k + 1 + j)) else none))))) else aI G K (fun _ => 0)) (k + 1 + N) H1 → pS G H0 H1 locs → W p l e R s m args below meth c H1 locs (cells + 1 + N) (slots + N + N * K) Q (F0 m (pc + 4) ls (.ref (ra G k) :: rest))) : W p l e R s m args below meth c H locs cells slots Q (F0 m pc ls (.int (nI K) :: .int (nI N) :: rest)) := by
  obtain ⟨hx, hb, -, hown, hts, hK⟩ := X
  have hcN : (nI N).toNatClampNeg = N := nI_clamp (by omega)
  have hcK : (nI K).toNatClampNeg = K := nI_clamp (by omega)
  intro T hT Xs
  obtain ⟨vm₁, cA, comp, -, fA, fC, hO, -, X', step⟩ := Xs.multianewarray2F hx (index := index) (ty := .int) hown (hts _ hcl) (show (Cond.arrayOver (.array .int)).before args s = true from hao) (hts _ harr) (g := F0 m pc ls (.int (nI K) :: .int (nI N) :: rest)) rfl (by rw [hb]; exact hdg) rfl (nI_pos (by omega)) (nI_pos (by omega)) (by rw [hcN]; omega) (by rw [hcK]; show K * 4 ≤ _; omega) (by rw [hcK]; omega) rfl rfl (by rw [hcN]; exact hcells) (by rw [hcN, hcK]; exact hslots)
  rw [hcN, hcK] at X' step
  have e1 : comp = G.2.1.1 := Option.some.inj (fC.symm.trans (hK.1.2 0 _ rfl).2)
  have e2 : cA = G.2.1.2.2.2 := Option.some.inj (fA.symm.trans (hK.1.2 3 _ rfl).2)
  subst e1
  subst e2
  generalize hF : Jvm.Free.Multi.fill (T.setVm vm₁) G.2.1.2.2.2 G.2.1.1 N K (defaultValue .int) N = F at X' step
  have hTh : (T.setVm vm₁).heap = H := hT
  obtain ⟨f1, f2, -, -⟩ := Jvm.Free.Multi.fill_facts (T.setVm vm₁) G.2.1.2.2.2 G.2.1.1 N K (defaultValue .int) N
  rw [hF, hTh] at f1 f2
  have hold : ∀ x : Nat, x < H.size → F.heap[x]? = H[x]? := fun x hx => by
    have := Jvm.Free.Multi.fill_old (T.setVm vm₁) G.2.1.2.2.2 G.2.1.1 N K (defaultValue .int) (a := x) (by rw [hTh]; exact hx) N
    rw [hF, hTh] at this
    exact this
  have hrow : ∀ j : Nat, j < N → F.heap[H.size + 1 + j]? = some (Jvm.Free.Multi.innerC G.2.1.1 K (defaultValue .int)) := fun j hj => by
    have := Jvm.Free.Multi.fill_inner (T.setVm vm₁) G.2.1.2.2.2 G.2.1.1 N K (defaultValue .int) N j hj
    rw [hF, hTh] at this
    exact this
  have hin : Jvm.Free.Multi.innerC G.2.1.1 K (defaultValue .int) = vp_cell G.2.1.1 (K, .inl (fun _ => nI 0)) := by
    rw [vp_cell_i, ← arrV_new]; rfl
  have hout : Jvm.Free.Multi.outerC G.2.1.2.2.2 N H.size N = vp_cell G.2.1.2.2.2 (N, .inr (.inr (.inr (.inr (fun j => if j < N then some (H.size + 1 + j) else none))))) := by
    rw [vp_cell_q]
    exact vs_outer G.2.1.2.2.2 N H.size N
  have es := hP.size
  obtain ⟨t, a1, b1⟩ := kk F.heap ⟨by rw [f1, hP.1]; omega, fun i hi => by
      by_cases c1 : i < k
      · simp only [if_pos c1]
        exact (hP.2 i c1).kept (hold _ (by rw [hP.1]; show ra G i < _; unfold ra; omega))
      · by_cases c2 : i = k
        · subst c2
          simp only [Nat.lt_irrefl, if_false, if_true]
          rw [hout, es] at f2
          have e9 : (fun j => if j < N then some (ra G i + 1 + j) else none) = (fun j => if j < N then some (ra G (i + 1 + j)) else none) := by
            funext j; unfold ra; split
            · congr 1; omega
            · rfl
          rw [e9] at f2
          exact f2
        · simp only [if_neg c1, if_neg c2]
          have h9 := hrow (i - k - 1) (by omega)
          rw [hin, es, show ra G k + 1 + (i - k - 1) = ra G i by unfold ra; omega] at h9
          exact h9⟩ (pS.grow hS (by rw [f1]; omega) hold) F rfl X'
  refine ⟨t, step t ?_, b1⟩
  have e : T.heap.size = ra G k := by rw [hT]; exact es
  rw [e]
  exact a1
/-- a place of a row of references is written -/
theorem p_aast {i q N j ci t0 : Nat} {cA : ClassId} {r : vw_C} {vs : List Value} {f : Nat → Option Nat} (X : dC p s m args c cc n own G) (hP : pM G E k H) (hS : pS G H0 H locs) (hi : i < k) (hq : q < k) (hE : E i = .inl (cA, N, .inr (.inr (.inr (.inr f))))) (hE2 : E q = .inr (ci, vs)) (ht : (dT G)[t0]? = some (cA, .object r.1)) (hc : dkCl[ci]? = some r) (hj : j < N) (hN : N < 2 ^ 31) (hdg : decode cc pc = .ok (.aastore, 1))
    (kk : ∀ (H1 : Heap) (locs1 : List Loc), pM G (va_up E i (.inl (cA, N, .inr (.inr (.inr (.inr (va_up f j (some (ra G q)))))))))  k H1 → pS G H0 H1 locs1 → W p l e R s m args below meth c H1 locs1 cells slots Q (F0 m (pc + 1) ls rest)) : W p l e R s m args below meth c H locs cells slots Q (F0 m pc ls (.ref (ra G q) :: .int (nI j) :: .ref (ra G i) :: rest)) := by
  obtain ⟨hx, hb, -, hown, hts, hK⟩ := X
  have hK := hK.1
  have hcj : (nI j).toNatClampNeg = j := nI_clamp (by omega)
  have h1 := hP.2 i hi
  rw [hE] at h1
  have h2 := hP.2 q hq
  rw [hE2] at h2
  obtain ⟨r', hr', cellV, g1, g2, g3, -⟩ := h2
  have hcls := (hK.1 ci r hc).2
  obtain ⟨kA, comp, k1, k2, k3, -⟩ := (hK.2 t0 _ ht).2
  have hcomp : comp = G.1.1 ci := Option.some.inj (k3.symm.trans hcls.1)
  subst hcomp
  obtain ⟨kC, hkC, -⟩ := hcls.2
  have h1 : H[ra G i]? = some (vp_cell cA (N, .inr (.inr (.inr (.inr f))))) := h1
  refine W.aast hx hb h1 (fun q h => by cases h) (fun h => by cases h) k1 k2 rfl hkC ⟨nI_pos (by omega), by show _ < (arrV _ _ _).slots.size; rw [arrV_size, hcj]; exact hj⟩ g1 (fun q h => by rw [g3] at h; cases h) (by rw [g2]; exact hkC) (by rw [g2]; exact va_assign hcls) rfl rfl hdg fun H1 e z oq => ?_
  refine kk H1 _ (hP.up hi ?_ z oq) (hS.put z oq (pA_ra G i))
  show H1[ra G i]? = some (vp_cell _ _)
  rw [e, hcj]
  rw [vp_cell_q, vp_cell_q, arrV_store]
  congr 2
  funext z
  by_cases hz : z = j
  · subst hz
    simp [updV, va_up, va_rf]
  · simp [updV, va_up, hz]
end RW6
end
section
/-! ===== constructors ===== -/
/-- room of a constructor -/
def rmC (d mc ms : Nat) : Room := { frames := d, cells := mc, slots := ms, locals := 40 * d }
abbrev nPc (G : dG) (sz : Nat) (E : Nat → va_E) (k : Nat) (av : List Value) : Array Value → State → Prop := va_Pc av (fun U => U.heap.size = sz ∧ pM G E k U.heap ∧ dK G U ∧ NA U)
abbrev nQ (G : dG) (k' : Nat) (P : (Nat → va_E) → Prop) : Array Value → State → Outcome → State → Prop := va_Qv (fun E' : Nat → va_E => P E') (fun E' t => pM G E' k' t.heap) (pA G)
/-- made at cell i, with k cells there: k' cells are there then, and hold P -/
def cN (l : Launch) (y : MethodName) (b : ByteArray) (n d mc ms : Nat) (G : dG) (i k k' : Nat) (E : Nat → va_E) (P : (Nat → va_E) → Prop) : Prop :=
  ∀ sz, Met l y (wsD y b n none) (rmC d mc ms) (nPc G sz E k [.ref (ra G i)]) (nQ G k' P) mc ms (pA G)
theorem cN_of {l : Launch} {y : MethodName} {b : ByteArray} {n d mc ms : Nat} {G : dG} {i k k' : Nat} {E : Nat → va_E} {P : (Nat → va_E) → Prop} (hy : plainName y.cls = true) (hyn : y.name = "<init>") (hn : (lg_sl [Value.ref (ra G i)]).length ≤ n)
    (body : ∀ (p : Program) (e : Env) (s : State) (m : MethodId) (args : Array Value) (below : List Frame) (meth : Method) (c : Code) (ls : Array Slot), dC p s m args c b n y.cls G → pM G E k s.heap → NA s → meth.name = "<init>" → meth.sig.returnType = none → meth.locks = false → lv_has ls n (lv_args 0 [.ref (ra G i)]) →
      W p l e (rmC d mc ms) s m args below meth c s.heap [] 0 0 (MQ below (nQ G k' P) args s mc ms (pA G)) (F0 m 0 ls [])) : cN l y b n d mc ms G i k k' E P := by
  intro sz
  refine Met.ofW (cc := b) (maxL := n) (ret := none) hy rfl ?_
  intro p e s m args below meth c s₁ B hml hv
  obtain ⟨rfl, hsz, hM, hK, hN⟩ := hv
  subst hsz
  have hts := atoms_spec (ws := wsD y b n none) B.pre
  have hl := lv_entry [Value.ref (ra G i)] hn
  rw [lg_entry_eq]
  exact body p e s m _ below meth c _ ⟨B.exec, B.bytes, hml, findClass_of_methodNamed B.named, fun w h => hts w (List.mem_cons_of_mem _ h), hK⟩ hM hN ((name_of_methodNamed B.named B.method).1.trans hyn) B.returns B.notSynchronized hl
theorem nPc_blind (G : dG) (sz : Nat) (E : Nat → va_E) (k : Nat) (av : List Value) : FrameBlind (nPc G sz E k av) := fun a U g mk q => by
  obtain ⟨q0, q1, q2, q3, q4⟩ := q
  exact ⟨q0, q1, q2, q3.calling, NA.moved (u := U) (U := U.calling g mk a) (Vm.Alike.refl U.vm) q4⟩
section RW7
variable {p : Program} {l : Launch} {e : Env} {R : Room} {s : State} {m : MethodId} {args : Array Value} {below : List Frame} {meth : Method} {c : Code} {H : Heap} {locs : List Loc} {cells slots : Nat} {Q : State → Prop}
variable {cc : ByteArray} {pc n : Nat} {ls : Array Slot} {rest st : List Value} {own : String} {G : dG} {E : Nat → va_E} {k k' i : Nat} {H0 : Heap} {P : (Nat → va_E) → Prop}
theorem rN (hp : P E) (X : dC p s m args c cc n own G) (hP : pM G E k' H) (hS : pS G s.heap H locs) (hr : meth.sig.returnType = none) (hlk : meth.locks = false) (hdg : decode cc pc = .ok (.return_, 1)) : W p l e R s m args below meth c H locs cells slots (MQ below (nQ G k' P) args s cells slots (pA G)) (F0 m pc ls []) :=
  W.vret X.1 X.2.1 hr (fun t ht hW => ⟨⟨E, rfl, hp, by show pM G E k' t.heap; rw [ht]; exact hP⟩, hS.F ht⟩) hS.2.2 hdg hlk
theorem kNC {y : MethodName} {b : ByteArray} {nL nY d mc ms index : Nat} {host : String} (X : dC p s m args c cc nL own G) (hP : pM G E k H) (hS : pS G H0 H locs) (hl : ls.size = nL) (hc : cN l y b nY d mc ms G i k k' E P) (hlink : Cond.methodLinkNest own index y host ∈ nestW) (mf : Cond.instanceMethod y ∈ allW ∧ Cond.code y b nY none ∈ allW) (hin : Cond.initialized y.cls ∈ allW) (hd : y.name = "<init>" ∧ y.cls ≠ "java/lang/invoke/MethodHandle" ∧ y.cls ≠ "java/lang/invoke/VarHandle" ∧ (parseMethodDescriptor y.desc).map (fun d => d.parameters.length) = some 0) (hNA : NA s) (hR : d + 1 ≤ R.frames ∧ 8 + (nY + 11) + 40 * d ≤ R.locals) (hcs : cells + mc ≤ R.cells ∧ slots + ms ≤ R.slots) (hstk : st = .ref (ra G i) :: rest) (hst : (rest.map fun v => v.category).sum ≤ 8) (hdg : decode cc pc = .ok (.invokespecial index, 3))
    (kk : ∀ (E' : Nat → va_E) (H1 : Heap) (locs1 : List Loc), P E' → pM G E' k' H1 → pS G H0 H1 locs1 → W p l e R s m args below meth c H1 locs1 (cells + mc) (slots + ms) Q (F0 m (pc + 3) ls rest)) : W p l e R s m args below meth c H locs cells slots Q (F0 m pc ls st) := by
  subst hstk
  refine va_callv (va_runIN (host := host) (As := []) (rest := rest) ⟨X.1, X.2.1, X.2.2.1, X.2.2.2.1, X.2.2.2.2.1⟩ (hc H.size) ⟨va_cnB 0 X.2.2.2.2.1 (goodIn_all (fun _ h => h) mf.2) rfl rfl rfl (X.2.2.2.2.2.2 _ hlink) (X.2.2.2.2.1 _ hin) hd.2 hR, hd.1, X.2.2.2.2.1 _ mf.1⟩ ⟨nPc_blind _ _ _ _ _, fun U hU hW => ⟨rfl, by rw [hU], by rw [hU]; exact hP, X.2.2.2.2.2.warm hW, hNA.moved hW.alike⟩⟩ rfl rfl hl rfl (lv_room hst) hdg hcs) hS (fun q _ h => h) (fun q h => h) (fun u t H1 locs1 ht hvm hw hB _ _ hS1 => ?_)
  rw [ht] at hB
  exact kk u H1 locs1 hw hB hS1
end RW7
/-- a lot at i, new -/
def lotN (G : dG) (i : Nat) (E : Nat → va_E) : Prop := E i = .inr (1, [.ref (ra G (i + 1)), .ref (ra G (i + 2)), .ref (ra G (i + 3))]) ∧ ∀ j, i + 1 ≤ j → j ≤ i + 3 → E j = aI G 10 (fun _ => 0)
theorem lotN_keep {G : dG} {i : Nat} {E E' : Nat → va_E} (h : lotN G i E) (hk : ∀ j, i ≤ j → E' j = E j) : lotN G i E' := ⟨by rw [hk i (Nat.le_refl _)]; exact h.1, fun j h1 h2 => by rw [hk j (by omega)]; exact h.2 j h1 h2⟩
theorem lot3 {i : Nat} {E : Nat → va_E} {a : va_E} (h1 : E (i + 1) = a) (h2 : E (i + 2) = a) (h3 : E (i + 3) = a) : ∀ j, i + 1 ≤ j → j ≤ i + 3 → E j = a := by
  intro j g1 g2
  rcases (show j = i + 1 ∨ j = i + 2 ∨ j = i + 3 by omega) with rfl | rfl | rfl
  · exact h1
  · exact h2
  · exact h3
theorem tray_r {G : dG} {i j : Nat} {E7 E8 : Nat → va_E} (h7 : E7 (i + 13) = aI G 60 (fun _ => 0)) (h1 : i + 4 ≤ j) (h2 : j ≤ i + 13) (h : E8 j = E7 j) (ho : j ≠ i + 13 → E7 j = aI G 60 (fun _ => 0)) : E8 j = aI G 60 (fun _ => 0) := by
  rw [h]
  by_cases e : j = i + 13
  · rw [e]; exact h7
  · exact ho e
set_option maxHeartbeats 4000000 in
set_option maxRecDepth 100000 in
theorem c_X1_init {l : Launch} {G : dG} {E : Nat → va_E} {i : Nat} (hE : E i = .inr (1, [.null, .null, .null])) : cN l yX1_init cX1_init 1 1 3 30 G (i) (i + 1) (i + 4) E (fun E' => lotN G i E' ∧ ∀ j, j < i → E' j = E j) := by
  refine cN_of (by decide +kernel) rfl (Nat.le_of_ble_eq_true rfl) ?_
  intro p e s m args below meth c ls X hP hNA hini hret hlk hl
  have hS : pS G s.heap s.heap [] := va_S.rf
  replace hl : lv_has ls 1 [(0, _)] := hl
  refine lv_aload_n X.1 X.2.1 dX1_init_0 rfl (lv_at hl 0 rfl) ?_
  refine W.objInit X.1 X.2.1 X.2.2.2.1 (X.2.2.2.2.1 _ kl_X1_3) (X.2.2.2.2.1 _ mi_obj.1) (X.2.2.2.2.1 _ mi_obj.2) rfl (by rw [X.2.2.1]; exact hl.1) rfl dX1_init_1 (Nat.le_of_ble_eq_true rfl) (Nat.le_of_ble_eq_true rfl) ?_
  refine W.eq (g2 := F0 m 4 ls []) rfl ?_
  refine lv_aload_n X.1 X.2.1 dX1_init_4 rfl (lv_at hl 0 rfl) ?_
  refine tn_bi (v := 10) X dX1_init_5 (by decide) ?_
  refine p_newI X hP hS ka_int (by decide) (Nat.le_of_ble_eq_true rfl) (Nat.le_of_ble_eq_true rfl) dX1_init_7 (fun H hP hS => ?_)
  obtain ⟨E1, hq1⟩ : ∃ z, z = va_up E (i + 1) (aI G 10 (fun _ => 0)) := ⟨_, rfl⟩
  rw [← hq1] at hP
  have hi1 : E1 (i + 1) = aI G 10 (fun _ => 0) := by rw [hq1, va_up_self]
  have hn1 : ∀ y, y ≠ i + 1 → E1 y = E y := fun y hy => by rw [hq1, va_up_ne _ _ hy]
  clear hq1
  have hE100 : E1 i = .inr (1, [.null, .null, .null]) := by rw [hn1 i (by omega)]; exact hE
  refine p_putF (ty := .array .int) (fs' := [.ref (ra G (i + 1)), .null, .null]) (ci := 1) (C := RX1) (T := TX1) (N := 3) X hini hP hS inA1 tyX1_ok nmX1 (by omega) hE100 rfl 0 (by decide) kl_X1_9 rfl rfl (by decide +kernel) rfl rfl (Nat.le_of_ble_eq_true rfl) rfl dX1_init_9 (fun H locs hP hS => ?_)
  obtain ⟨E2, hq2⟩ : ∃ z, z = va_up E1 (i) (.inr (1, [.ref (ra G (i + 1)), .null, .null])) := ⟨_, rfl⟩
  rw [← hq2] at hP
  have hi2 : E2 (i) = .inr (1, [.ref (ra G (i + 1)), .null, .null]) := by rw [hq2, va_up_self]
  have hn2 : ∀ y, y ≠ i → E2 y = E1 y := fun y hy => by rw [hq2, va_up_ne _ _ hy]
  clear hq2
  refine lv_aload_n X.1 X.2.1 dX1_init_12 rfl (lv_at hl 0 rfl) ?_
  refine tn_bi (v := 10) X dX1_init_13 (by decide) ?_
  refine p_newI X hP hS ka_int (by decide) (Nat.le_of_ble_eq_true rfl) (Nat.le_of_ble_eq_true rfl) dX1_init_15 (fun H hP hS => ?_)
  obtain ⟨E3, hq3⟩ : ∃ z, z = va_up E2 (i + 2) (aI G 10 (fun _ => 0)) := ⟨_, rfl⟩
  rw [← hq3] at hP
  have hi3 : E3 (i + 2) = aI G 10 (fun _ => 0) := by rw [hq3, va_up_self]
  have hn3 : ∀ y, y ≠ i + 2 → E3 y = E2 y := fun y hy => by rw [hq3, va_up_ne _ _ hy]
  clear hq3
  have hE101 : E3 i = .inr (1, [.ref (ra G (i + 1)), .null, .null]) := by rw [hn3 i (by omega)]; exact hi2
  refine p_putF (ty := .array .int) (fs' := [.ref (ra G (i + 1)), .ref (ra G (i + 2)), .null]) (ci := 1) (C := RX1) (T := TX1) (N := 3) X hini hP hS inA1 tyX1_ok nmX1 (by omega) hE101 rfl 1 (by decide) kl_X1_15 rfl rfl (by decide +kernel) rfl rfl (Nat.le_of_ble_eq_true rfl) rfl dX1_init_17 (fun H locs hP hS => ?_)
  obtain ⟨E4, hq4⟩ : ∃ z, z = va_up E3 (i) (.inr (1, [.ref (ra G (i + 1)), .ref (ra G (i + 2)), .null])) := ⟨_, rfl⟩
  rw [← hq4] at hP
  have hi4 : E4 (i) = .inr (1, [.ref (ra G (i + 1)), .ref (ra G (i + 2)), .null]) := by rw [hq4, va_up_self]
  have hn4 : ∀ y, y ≠ i → E4 y = E3 y := fun y hy => by rw [hq4, va_up_ne _ _ hy]
  clear hq4
  refine lv_aload_n X.1 X.2.1 dX1_init_20 rfl (lv_at hl 0 rfl) ?_
  refine tn_bi (v := 10) X dX1_init_21 (by decide) ?_
  refine p_newI X hP hS ka_int (by decide) (Nat.le_of_ble_eq_true rfl) (Nat.le_of_ble_eq_true rfl) dX1_init_23 (fun H hP hS => ?_)
  obtain ⟨E5, hq5⟩ : ∃ z, z = va_up E4 (i + 3) (aI G 10 (fun _ => 0)) := ⟨_, rfl⟩
  rw [← hq5] at hP
  have hi5 : E5 (i + 3) = aI G 10 (fun _ => 0) := by rw [hq5, va_up_self]
  have hn5 : ∀ y, y ≠ i + 3 → E5 y = E4 y := fun y hy => by rw [hq5, va_up_ne _ _ hy]
  clear hq5
  have hE102 : E5 i = .inr (1, [.ref (ra G (i + 1)), .ref (ra G (i + 2)), .null]) := by rw [hn5 i (by omega)]; exact hi4
  refine p_putF (ty := .array .int) (fs' := [.ref (ra G (i + 1)), .ref (ra G (i + 2)), .ref (ra G (i + 3))]) (ci := 1) (C := RX1) (T := TX1) (N := 3) X hini hP hS inA1 tyX1_ok nmX1 (by omega) hE102 rfl 2 (by decide) kl_X1_18 rfl rfl (by decide +kernel) rfl rfl (Nat.le_of_ble_eq_true rfl) rfl dX1_init_25 (fun H locs hP hS => ?_)
  obtain ⟨E6, hq6⟩ : ∃ z, z = va_up E5 (i) (.inr (1, [.ref (ra G (i + 1)), .ref (ra G (i + 2)), .ref (ra G (i + 3))])) := ⟨_, rfl⟩
  rw [← hq6] at hP
  have hi6 : E6 (i) = .inr (1, [.ref (ra G (i + 1)), .ref (ra G (i + 2)), .ref (ra G (i + 3))]) := by rw [hq6, va_up_self]
  have hn6 : ∀ y, y ≠ i → E6 y = E5 y := fun y hy => by rw [hq6, va_up_ne _ _ hy]
  clear hq6
  exact rN (⟨⟨hi6, lot3 (by rw [hn6 _ (by omega), hn5 _ (by omega), hn4 _ (by omega), hn3 _ (by omega), hn2 _ (by omega)]; exact hi1) (by rw [hn6 _ (by omega), hn5 _ (by omega), hn4 _ (by omega)]; exact hi3) (by rw [hn6 _ (by omega)]; exact hi5)⟩, fun j hj => by rw [hn6 j (by omega), hn5 j (by omega), hn4 j (by omega), hn3 j (by omega), hn2 j (by omega), hn1 j (by omega)]⟩) X hP hS hret hlk dX1_init_28

set_option maxHeartbeats 4000000 in
set_option maxRecDepth 100000 in
theorem c_X3_init {l : Launch} {G : dG} {E : Nat → va_E} {i k : Nat} (hE : E i = .inr (3, [.int (nI 0), .int (nI 0), .int (nI 0), .int (nI 0), .int (nI 0)])) (hik : i < k) : cN l yX3_init cX3_init 1 1 0 0 G (i) (k) (k) E (fun E' => E' i = .inr (3, [.int (nI 0), .int (nI 0), .int (nI 0), .int (nI 610001), .int (nI 610001)]) ∧ ∀ j, j ≠ i → E' j = E j) := by
  refine cN_of (by decide +kernel) rfl (Nat.le_of_ble_eq_true rfl) ?_
  intro p e s m args below meth c ls X hP hNA hini hret hlk hl
  have hS : pS G s.heap s.heap [] := va_S.rf
  replace hl : lv_has ls 1 [(0, _)] := hl
  refine lv_aload_n X.1 X.2.1 dX3_init_0 rfl (lv_at hl 0 rfl) ?_
  refine W.objInit X.1 X.2.1 X.2.2.2.1 (X.2.2.2.2.1 _ kl_X3_3) (X.2.2.2.2.1 _ mi_obj.1) (X.2.2.2.2.1 _ mi_obj.2) rfl (by rw [X.2.2.1]; exact hl.1) rfl dX3_init_1 (Nat.le_of_ble_eq_true rfl) (Nat.le_of_ble_eq_true rfl) ?_
  refine W.eq (g2 := F0 m 4 ls []) rfl ?_
  refine lv_aload_n X.1 X.2.1 dX3_init_4 rfl (lv_at hl 0 rfl) ?_
  refine tn_ic (v := 0) X dX3_init_5 (by decide) ?_
  refine p_put (ty := .int) (fs' := [.int (nI 0), .int (nI 0), .int (nI 0), .int (nI 0), .int (nI 0)]) (ci := 3) (C := RX3) (T := TX3) (N := 5) X hP hS inA3 tyX3_ok nmX3 (by omega) hE rfl 0 (by decide) kl_X3_9 rfl rfl (by decide +kernel) rfl rfl (Nat.le_of_ble_eq_true rfl) rfl dX3_init_6 (fun H locs hP hS => ?_)
  obtain ⟨E1, hq1⟩ : ∃ z, z = va_up E (i) (.inr (3, [.int (nI 0), .int (nI 0), .int (nI 0), .int (nI 0), .int (nI 0)])) := ⟨_, rfl⟩
  rw [← hq1] at hP
  have hi1 : E1 (i) = .inr (3, [.int (nI 0), .int (nI 0), .int (nI 0), .int (nI 0), .int (nI 0)]) := by rw [hq1, va_up_self]
  have hn1 : ∀ y, y ≠ i → E1 y = E y := fun y hy => by rw [hq1, va_up_ne _ _ hy]
  clear hq1
  refine lv_aload_n X.1 X.2.1 dX3_init_9 rfl (lv_at hl 0 rfl) ?_
  refine tn_ic (v := 0) X dX3_init_10 (by decide) ?_
  refine p_put (ty := .int) (fs' := [.int (nI 0), .int (nI 0), .int (nI 0), .int (nI 0), .int (nI 0)]) (ci := 3) (C := RX3) (T := TX3) (N := 5) X hP hS inA3 tyX3_ok nmX3 (by omega) hi1 rfl 1 (by decide) kl_X3_15 rfl rfl (by decide +kernel) rfl rfl (Nat.le_of_ble_eq_true rfl) rfl dX3_init_11 (fun H locs hP hS => ?_)
  obtain ⟨E2, hq2⟩ : ∃ z, z = va_up E1 (i) (.inr (3, [.int (nI 0), .int (nI 0), .int (nI 0), .int (nI 0), .int (nI 0)])) := ⟨_, rfl⟩
  rw [← hq2] at hP
  have hi2 : E2 (i) = .inr (3, [.int (nI 0), .int (nI 0), .int (nI 0), .int (nI 0), .int (nI 0)]) := by rw [hq2, va_up_self]
  have hn2 : ∀ y, y ≠ i → E2 y = E1 y := fun y hy => by rw [hq2, va_up_ne _ _ hy]
  clear hq2
  refine lv_aload_n X.1 X.2.1 dX3_init_14 rfl (lv_at hl 0 rfl) ?_
  refine tn_ic (v := 0) X dX3_init_15 (by decide) ?_
  refine p_put (ty := .int) (fs' := [.int (nI 0), .int (nI 0), .int (nI 0), .int (nI 0), .int (nI 0)]) (ci := 3) (C := RX3) (T := TX3) (N := 5) X hP hS inA3 tyX3_ok nmX3 (by omega) hi2 rfl 2 (by decide) kl_X3_18 rfl rfl (by decide +kernel) rfl rfl (Nat.le_of_ble_eq_true rfl) rfl dX3_init_16 (fun H locs hP hS => ?_)
  obtain ⟨E3, hq3⟩ : ∃ z, z = va_up E2 (i) (.inr (3, [.int (nI 0), .int (nI 0), .int (nI 0), .int (nI 0), .int (nI 0)])) := ⟨_, rfl⟩
  rw [← hq3] at hP
  have hi3 : E3 (i) = .inr (3, [.int (nI 0), .int (nI 0), .int (nI 0), .int (nI 0), .int (nI 0)]) := by rw [hq3, va_up_self]
  have hn3 : ∀ y, y ≠ i → E3 y = E2 y := fun y hy => by rw [hq3, va_up_ne _ _ hy]
  clear hq3
  refine lv_aload_n X.1 X.2.1 dX3_init_19 rfl (lv_at hl 0 rfl) ?_
  refine tn_ldc (w := 610001) X kl_X3_21 (by decide) dX3_init_20 ?_
  refine p_put (ty := .int) (fs' := [.int (nI 0), .int (nI 0), .int (nI 0), .int (nI 610001), .int (nI 0)]) (ci := 3) (C := RX3) (T := TX3) (N := 5) X hP hS inA3 tyX3_ok nmX3 (by omega) hi3 rfl 3 (by decide) kl_X3_22 rfl rfl (by decide +kernel) rfl rfl (Nat.le_of_ble_eq_true rfl) rfl dX3_init_22 (fun H locs hP hS => ?_)
  obtain ⟨E4, hq4⟩ : ∃ z, z = va_up E3 (i) (.inr (3, [.int (nI 0), .int (nI 0), .int (nI 0), .int (nI 610001), .int (nI 0)])) := ⟨_, rfl⟩
  rw [← hq4] at hP
  have hi4 : E4 (i) = .inr (3, [.int (nI 0), .int (nI 0), .int (nI 0), .int (nI 610001), .int (nI 0)]) := by rw [hq4, va_up_self]
  have hn4 : ∀ y, y ≠ i → E4 y = E3 y := fun y hy => by rw [hq4, va_up_ne _ _ hy]
  clear hq4
  refine lv_aload_n X.1 X.2.1 dX3_init_25 rfl (lv_at hl 0 rfl) ?_
  refine tn_ldc (w := 610001) X kl_X3_21 (by decide) dX3_init_26 ?_
  refine p_put (ty := .int) (fs' := [.int (nI 0), .int (nI 0), .int (nI 0), .int (nI 610001), .int (nI 610001)]) (ci := 3) (C := RX3) (T := TX3) (N := 5) X hP hS inA3 tyX3_ok nmX3 (by omega) hi4 rfl 4 (by decide) kl_X3_25 rfl rfl (by decide +kernel) rfl rfl (Nat.le_of_ble_eq_true rfl) rfl dX3_init_28 (fun H locs hP hS => ?_)
  obtain ⟨E5, hq5⟩ : ∃ z, z = va_up E4 (i) (.inr (3, [.int (nI 0), .int (nI 0), .int (nI 0), .int (nI 610001), .int (nI 610001)])) := ⟨_, rfl⟩
  rw [← hq5] at hP
  have hi5 : E5 (i) = .inr (3, [.int (nI 0), .int (nI 0), .int (nI 0), .int (nI 610001), .int (nI 610001)]) := by rw [hq5, va_up_self]
  have hn5 : ∀ y, y ≠ i → E5 y = E4 y := fun y hy => by rw [hq5, va_up_ne _ _ hy]
  clear hq5
  exact rN (⟨hi5, fun j hj => by rw [hn5 j hj, hn4 j hj, hn3 j hj, hn2 j hj, hn1 j hj]⟩) X hP hS hret hlk dX3_init_31

set_option maxHeartbeats 4000000 in
set_option maxRecDepth 100000 in
theorem c_X0_init {l : Launch} {G : dG} {E : Nat → va_E} {i k : Nat} (hE : E i = .inr (0, [.int (nI 0), .int (nI 0), .int (nI 0), .int (nI 0), .int (nI 0), .int (nI 0)])) (hik : i < k) : cN l yX0_init cX0_init 1 1 0 0 G (i) (k) (k) E (fun E' => E' i = .inr (0, [.int (nI 0), .int (nI 0), .int (nI 0), .int (nI 0), .int (nI 0), .int (nI 0)]) ∧ ∀ j, j ≠ i → E' j = E j) := by
  refine cN_of (by decide +kernel) rfl (Nat.le_of_ble_eq_true rfl) ?_
  intro p e s m args below meth c ls X hP hNA hini hret hlk hl
  have hS : pS G s.heap s.heap [] := va_S.rf
  replace hl : lv_has ls 1 [(0, _)] := hl
  refine lv_aload_n X.1 X.2.1 dX0_init_0 rfl (lv_at hl 0 rfl) ?_
  refine W.objInit X.1 X.2.1 X.2.2.2.1 (X.2.2.2.2.1 _ kl_X0_3) (X.2.2.2.2.1 _ mi_obj.1) (X.2.2.2.2.1 _ mi_obj.2) rfl (by rw [X.2.2.1]; exact hl.1) rfl dX0_init_1 (Nat.le_of_ble_eq_true rfl) (Nat.le_of_ble_eq_true rfl) ?_
  refine W.eq (g2 := F0 m 4 ls []) rfl ?_
  refine lv_aload_n X.1 X.2.1 dX0_init_4 rfl (lv_at hl 0 rfl) ?_
  refine tn_ic (v := 0) X dX0_init_5 (by decide) ?_
  refine p_put (ty := .int) (fs' := [.int (nI 0), .int (nI 0), .int (nI 0), .int (nI 0), .int (nI 0), .int (nI 0)]) (ci := 0) (C := RX0) (T := TX0) (N := 6) X hP hS inA0 tyX0_ok nmX0 (by omega) hE rfl 0 (by decide) kl_X0_9 rfl rfl (by decide +kernel) rfl rfl (Nat.le_of_ble_eq_true rfl) rfl dX0_init_6 (fun H locs hP hS => ?_)
  obtain ⟨E1, hq1⟩ : ∃ z, z = va_up E (i) (.inr (0, [.int (nI 0), .int (nI 0), .int (nI 0), .int (nI 0), .int (nI 0), .int (nI 0)])) := ⟨_, rfl⟩
  rw [← hq1] at hP
  have hi1 : E1 (i) = .inr (0, [.int (nI 0), .int (nI 0), .int (nI 0), .int (nI 0), .int (nI 0), .int (nI 0)]) := by rw [hq1, va_up_self]
  have hn1 : ∀ y, y ≠ i → E1 y = E y := fun y hy => by rw [hq1, va_up_ne _ _ hy]
  clear hq1
  refine lv_aload_n X.1 X.2.1 dX0_init_9 rfl (lv_at hl 0 rfl) ?_
  refine tn_ic (v := 0) X dX0_init_10 (by decide) ?_
  refine p_put (ty := .int) (fs' := [.int (nI 0), .int (nI 0), .int (nI 0), .int (nI 0), .int (nI 0), .int (nI 0)]) (ci := 0) (C := RX0) (T := TX0) (N := 6) X hP hS inA0 tyX0_ok nmX0 (by omega) hi1 rfl 1 (by decide) kl_X0_15 rfl rfl (by decide +kernel) rfl rfl (Nat.le_of_ble_eq_true rfl) rfl dX0_init_11 (fun H locs hP hS => ?_)
  obtain ⟨E2, hq2⟩ : ∃ z, z = va_up E1 (i) (.inr (0, [.int (nI 0), .int (nI 0), .int (nI 0), .int (nI 0), .int (nI 0), .int (nI 0)])) := ⟨_, rfl⟩
  rw [← hq2] at hP
  have hi2 : E2 (i) = .inr (0, [.int (nI 0), .int (nI 0), .int (nI 0), .int (nI 0), .int (nI 0), .int (nI 0)]) := by rw [hq2, va_up_self]
  have hn2 : ∀ y, y ≠ i → E2 y = E1 y := fun y hy => by rw [hq2, va_up_ne _ _ hy]
  clear hq2
  refine lv_aload_n X.1 X.2.1 dX0_init_14 rfl (lv_at hl 0 rfl) ?_
  refine tn_ic (v := 0) X dX0_init_15 (by decide) ?_
  refine p_put (ty := .int) (fs' := [.int (nI 0), .int (nI 0), .int (nI 0), .int (nI 0), .int (nI 0), .int (nI 0)]) (ci := 0) (C := RX0) (T := TX0) (N := 6) X hP hS inA0 tyX0_ok nmX0 (by omega) hi2 rfl 2 (by decide) kl_X0_18 rfl rfl (by decide +kernel) rfl rfl (Nat.le_of_ble_eq_true rfl) rfl dX0_init_16 (fun H locs hP hS => ?_)
  obtain ⟨E3, hq3⟩ : ∃ z, z = va_up E2 (i) (.inr (0, [.int (nI 0), .int (nI 0), .int (nI 0), .int (nI 0), .int (nI 0), .int (nI 0)])) := ⟨_, rfl⟩
  rw [← hq3] at hP
  have hi3 : E3 (i) = .inr (0, [.int (nI 0), .int (nI 0), .int (nI 0), .int (nI 0), .int (nI 0), .int (nI 0)]) := by rw [hq3, va_up_self]
  have hn3 : ∀ y, y ≠ i → E3 y = E2 y := fun y hy => by rw [hq3, va_up_ne _ _ hy]
  clear hq3
  refine lv_aload_n X.1 X.2.1 dX0_init_19 rfl (lv_at hl 0 rfl) ?_
  refine tn_ic (v := 0) X dX0_init_20 (by decide) ?_
  refine p_put (ty := .int) (fs' := [.int (nI 0), .int (nI 0), .int (nI 0), .int (nI 0), .int (nI 0), .int (nI 0)]) (ci := 0) (C := RX0) (T := TX0) (N := 6) X hP hS inA0 tyX0_ok nmX0 (by omega) hi3 rfl 3 (by decide) kl_X0_21 rfl rfl (by decide +kernel) rfl rfl (Nat.le_of_ble_eq_true rfl) rfl dX0_init_21 (fun H locs hP hS => ?_)
  obtain ⟨E4, hq4⟩ : ∃ z, z = va_up E3 (i) (.inr (0, [.int (nI 0), .int (nI 0), .int (nI 0), .int (nI 0), .int (nI 0), .int (nI 0)])) := ⟨_, rfl⟩
  rw [← hq4] at hP
  have hi4 : E4 (i) = .inr (0, [.int (nI 0), .int (nI 0), .int (nI 0), .int (nI 0), .int (nI 0), .int (nI 0)]) := by rw [hq4, va_up_self]
  have hn4 : ∀ y, y ≠ i → E4 y = E3 y := fun y hy => by rw [hq4, va_up_ne _ _ hy]
  clear hq4
  refine lv_aload_n X.1 X.2.1 dX0_init_24 rfl (lv_at hl 0 rfl) ?_
  refine tn_ic (v := 0) X dX0_init_25 (by decide) ?_
  refine p_put (ty := .int) (fs' := [.int (nI 0), .int (nI 0), .int (nI 0), .int (nI 0), .int (nI 0), .int (nI 0)]) (ci := 0) (C := RX0) (T := TX0) (N := 6) X hP hS inA0 tyX0_ok nmX0 (by omega) hi4 rfl 4 (by decide) kl_X0_24 rfl rfl (by decide +kernel) rfl rfl (Nat.le_of_ble_eq_true rfl) rfl dX0_init_26 (fun H locs hP hS => ?_)
  obtain ⟨E5, hq5⟩ : ∃ z, z = va_up E4 (i) (.inr (0, [.int (nI 0), .int (nI 0), .int (nI 0), .int (nI 0), .int (nI 0), .int (nI 0)])) := ⟨_, rfl⟩
  rw [← hq5] at hP
  have hi5 : E5 (i) = .inr (0, [.int (nI 0), .int (nI 0), .int (nI 0), .int (nI 0), .int (nI 0), .int (nI 0)]) := by rw [hq5, va_up_self]
  have hn5 : ∀ y, y ≠ i → E5 y = E4 y := fun y hy => by rw [hq5, va_up_ne _ _ hy]
  clear hq5
  refine lv_aload_n X.1 X.2.1 dX0_init_29 rfl (lv_at hl 0 rfl) ?_
  refine tn_ic (v := 0) X dX0_init_30 (by decide) ?_
  refine p_put (ty := .int) (fs' := [.int (nI 0), .int (nI 0), .int (nI 0), .int (nI 0), .int (nI 0), .int (nI 0)]) (ci := 0) (C := RX0) (T := TX0) (N := 6) X hP hS inA0 tyX0_ok nmX0 (by omega) hi5 rfl 5 (by decide) kl_X0_27 rfl rfl (by decide +kernel) rfl rfl (Nat.le_of_ble_eq_true rfl) rfl dX0_init_31 (fun H locs hP hS => ?_)
  obtain ⟨E6, hq6⟩ : ∃ z, z = va_up E5 (i) (.inr (0, [.int (nI 0), .int (nI 0), .int (nI 0), .int (nI 0), .int (nI 0), .int (nI 0)])) := ⟨_, rfl⟩
  rw [← hq6] at hP
  have hi6 : E6 (i) = .inr (0, [.int (nI 0), .int (nI 0), .int (nI 0), .int (nI 0), .int (nI 0), .int (nI 0)]) := by rw [hq6, va_up_self]
  have hn6 : ∀ y, y ≠ i → E6 y = E5 y := fun y hy => by rw [hq6, va_up_ne _ _ hy]
  clear hq6
  exact rN (⟨hi6, fun j hj => by rw [hn6 j hj, hn5 j hj, hn4 j hj, hn3 j hj, hn2 j hj, hn1 j hj]⟩) X hP hS hret hlk dX0_init_34

set_option maxHeartbeats 4000000 in
set_option maxRecDepth 100000 in
theorem c_X2_init {l : Launch} {G : dG} {E : Nat → va_E} {i : Nat} (hE : E i = .inr (2, [.null, .int (nI 0), .int (nI 0), .int (nI 0)])) : cN l yX2_init cX2_init 1 2 4 33 G (i) (i + 1) (i + 5) E (fun E' => E' i = .inr (2, [.ref (ra G (i + 1)), .int (nI 0), .int (nI 0), .int (nI 0)]) ∧ lotN G (i + 1) E' ∧ ∀ j, j < i → E' j = E j) := by
  refine cN_of (by decide +kernel) rfl (Nat.le_of_ble_eq_true rfl) ?_
  intro p e s m args below meth c ls X hP hNA hini hret hlk hl
  have hS : pS G s.heap s.heap [] := va_S.rf
  replace hl : lv_has ls 1 [(0, _)] := hl
  refine lv_aload_n X.1 X.2.1 dX2_init_0 rfl (lv_at hl 0 rfl) ?_
  refine W.objInit X.1 X.2.1 X.2.2.2.1 (X.2.2.2.2.1 _ kl_X2_3) (X.2.2.2.2.1 _ mi_obj.1) (X.2.2.2.2.1 _ mi_obj.2) rfl (by rw [X.2.2.1]; exact hl.1) rfl dX2_init_1 (Nat.le_of_ble_eq_true rfl) (Nat.le_of_ble_eq_true rfl) ?_
  refine W.eq (g2 := F0 m 4 ls []) rfl ?_
  refine lv_aload_n X.1 X.2.1 dX2_init_4 rfl (lv_at hl 0 rfl) ?_
  refine p_new (ci := 1) (C := RX1) (T := TX1) (N := 3) (fs := [.null, .null, .null]) X hP hS inA1 tyX1_ok kc_X2_9 ki_X1 kn_X1 rfl (fun j hj => by rcases (show j = 0 ∨ j = 1 ∨ j = 2 by omega) with rfl | rfl | rfl <;> rfl) (Nat.le_of_ble_eq_true rfl) (Nat.le_of_ble_eq_true rfl) dX2_init_5 (fun H hP hS => ?_)
  obtain ⟨E1, hq1⟩ : ∃ z, z = va_up E (i + 1) (.inr (1, [.null, .null, .null])) := ⟨_, rfl⟩
  rw [← hq1] at hP
  have hi1 : E1 (i + 1) = .inr (1, [.null, .null, .null]) := by rw [hq1, va_up_self]
  have hn1 : ∀ y, y ≠ i + 1 → E1 y = E y := fun y hy => by rw [hq1, va_up_ne _ _ hy]
  clear hq1
  refine lv_dup X.1 X.2.1 dX2_init_8 rfl ?_
  refine kNC X hP hS hl.1 (c_X1_init hi1) kl_X2_11 mi_X1 kn_X1 (by decide +kernel) hNA ⟨Nat.le_of_ble_eq_true rfl, Nat.le_of_ble_eq_true rfl⟩ ⟨Nat.le_of_ble_eq_true rfl, Nat.le_of_ble_eq_true rfl⟩ rfl (Nat.le_of_ble_eq_true rfl) dX2_init_9 (fun E2 H locs hl2 hP hS => ?_)
  obtain ⟨hlot, hk2⟩ := hl2
  have hE2 : E2 i = .inr (2, [.null, .int (nI 0), .int (nI 0), .int (nI 0)]) := by rw [hk2 i (by omega), hn1 i (by omega)]; exact hE
  refine p_putF (ty := .object "CouponDesk$Lot") (fs' := [.ref (ra G (i + 1)), .int (nI 0), .int (nI 0), .int (nI 0)]) (ci := 2) (C := RX2) (T := TX2) (N := 4) X hini hP hS inA2 tyX2_ok nmX2 (by omega) hE2 rfl 0 (by decide) kl_X2_12 rfl rfl (by decide +kernel) rfl rfl (Nat.le_of_ble_eq_true rfl) rfl dX2_init_12 (fun H locs hP hS => ?_)
  obtain ⟨E3, hq3⟩ : ∃ z, z = va_up E2 (i) (.inr (2, [.ref (ra G (i + 1)), .int (nI 0), .int (nI 0), .int (nI 0)])) := ⟨_, rfl⟩
  rw [← hq3] at hP
  have hi3 : E3 (i) = .inr (2, [.ref (ra G (i + 1)), .int (nI 0), .int (nI 0), .int (nI 0)]) := by rw [hq3, va_up_self]
  have hn3 : ∀ y, y ≠ i → E3 y = E2 y := fun y hy => by rw [hq3, va_up_ne _ _ hy]
  clear hq3
  refine lv_aload_n X.1 X.2.1 dX2_init_15 rfl (lv_at hl 0 rfl) ?_
  refine tn_ic (v := 0) X dX2_init_16 (by decide) ?_
  refine p_put (ty := .int) (fs' := [.ref (ra G (i + 1)), .int (nI 0), .int (nI 0), .int (nI 0)]) (ci := 2) (C := RX2) (T := TX2) (N := 4) X hP hS inA2 tyX2_ok nmX2 (by omega) hi3 rfl 1 (by decide) kl_X2_18 rfl rfl (by decide +kernel) rfl rfl (Nat.le_of_ble_eq_true rfl) rfl dX2_init_17 (fun H locs hP hS => ?_)
  obtain ⟨E4, hq4⟩ : ∃ z, z = va_up E3 (i) (.inr (2, [.ref (ra G (i + 1)), .int (nI 0), .int (nI 0), .int (nI 0)])) := ⟨_, rfl⟩
  rw [← hq4] at hP
  have hi4 : E4 (i) = .inr (2, [.ref (ra G (i + 1)), .int (nI 0), .int (nI 0), .int (nI 0)]) := by rw [hq4, va_up_self]
  have hn4 : ∀ y, y ≠ i → E4 y = E3 y := fun y hy => by rw [hq4, va_up_ne _ _ hy]
  clear hq4
  refine lv_aload_n X.1 X.2.1 dX2_init_20 rfl (lv_at hl 0 rfl) ?_
  refine tn_ic (v := 0) X dX2_init_21 (by decide) ?_
  refine p_put (ty := .int) (fs' := [.ref (ra G (i + 1)), .int (nI 0), .int (nI 0), .int (nI 0)]) (ci := 2) (C := RX2) (T := TX2) (N := 4) X hP hS inA2 tyX2_ok nmX2 (by omega) hi4 rfl 2 (by decide) kl_X2_22 rfl rfl (by decide +kernel) rfl rfl (Nat.le_of_ble_eq_true rfl) rfl dX2_init_22 (fun H locs hP hS => ?_)
  obtain ⟨E5, hq5⟩ : ∃ z, z = va_up E4 (i) (.inr (2, [.ref (ra G (i + 1)), .int (nI 0), .int (nI 0), .int (nI 0)])) := ⟨_, rfl⟩
  rw [← hq5] at hP
  have hi5 : E5 (i) = .inr (2, [.ref (ra G (i + 1)), .int (nI 0), .int (nI 0), .int (nI 0)]) := by rw [hq5, va_up_self]
  have hn5 : ∀ y, y ≠ i → E5 y = E4 y := fun y hy => by rw [hq5, va_up_ne _ _ hy]
  clear hq5
  refine lv_aload_n X.1 X.2.1 dX2_init_25 rfl (lv_at hl 0 rfl) ?_
  refine tn_ic (v := 0) X dX2_init_26 (by decide) ?_
  refine p_put (ty := .int) (fs' := [.ref (ra G (i + 1)), .int (nI 0), .int (nI 0), .int (nI 0)]) (ci := 2) (C := RX2) (T := TX2) (N := 4) X hP hS inA2 tyX2_ok nmX2 (by omega) hi5 rfl 3 (by decide) kl_X2_25 rfl rfl (by decide +kernel) rfl rfl (Nat.le_of_ble_eq_true rfl) rfl dX2_init_27 (fun H locs hP hS => ?_)
  obtain ⟨E6, hq6⟩ : ∃ z, z = va_up E5 (i) (.inr (2, [.ref (ra G (i + 1)), .int (nI 0), .int (nI 0), .int (nI 0)])) := ⟨_, rfl⟩
  rw [← hq6] at hP
  have hi6 : E6 (i) = .inr (2, [.ref (ra G (i + 1)), .int (nI 0), .int (nI 0), .int (nI 0)]) := by rw [hq6, va_up_self]
  have hn6 : ∀ y, y ≠ i → E6 y = E5 y := fun y hy => by rw [hq6, va_up_ne _ _ hy]
  clear hq6
  exact rN (⟨hi6, lotN_keep hlot (fun j h1 => by rw [hn6 j (by omega), hn5 j (by omega), hn4 j (by omega), hn3 j (by omega)]), fun j hj => by rw [hn6 j (by omega), hn5 j (by omega), hn4 j (by omega), hn3 j (by omega), hk2 j (by omega), hn1 j (by omega)]⟩) X hP hS hret hlk dX2_init_30

set_option maxHeartbeats 4000000 in
set_option maxRecDepth 100000 in
theorem c_X4_init {l : Launch} {G : dG} {E : Nat → va_E} {i : Nat} (hE : E i = .inr (4, [.null, .null, .null, .null, .int (nI 0)])) : cN l yX4_init cX4_init 1 1 13 729 G (i) (i + 1) (i + 14) E (fun E' => E' i = .inr (4, [.ref (ra G (i + 1)), .ref (ra G (i + 2)), .ref (ra G (i + 3)), .ref (ra G (i + 13)), .int (nI 0)]) ∧ E' (i + 1) = aI G 60 (fun _ => 0) ∧ E' (i + 2) = aI G 60 (fun _ => 0) ∧ E' (i + 3) = .inl (G.2.1.2.2.2, 9, .inr (.inr (.inr (.inr (fun j => if j < 9 then some (ra G (i + 3 + 1 + j)) else none))))) ∧ (∀ j, i + 4 ≤ j → j ≤ i + 13 → E' j = aI G 60 (fun _ => 0)) ∧ ∀ j, j < i → E' j = E j) := by
  refine cN_of (by decide +kernel) rfl (Nat.le_of_ble_eq_true rfl) ?_
  intro p e s m args below meth c ls X hP hNA hini hret hlk hl
  have hS : pS G s.heap s.heap [] := va_S.rf
  replace hl : lv_has ls 1 [(0, _)] := hl
  refine lv_aload_n X.1 X.2.1 dX4_init_0 rfl (lv_at hl 0 rfl) ?_
  refine W.objInit X.1 X.2.1 X.2.2.2.1 (X.2.2.2.2.1 _ kl_X4_3) (X.2.2.2.2.1 _ mi_obj.1) (X.2.2.2.2.1 _ mi_obj.2) rfl (by rw [X.2.2.1]; exact hl.1) rfl dX4_init_1 (Nat.le_of_ble_eq_true rfl) (Nat.le_of_ble_eq_true rfl) ?_
  refine W.eq (g2 := F0 m 4 ls []) rfl ?_
  refine lv_aload_n X.1 X.2.1 dX4_init_4 rfl (lv_at hl 0 rfl) ?_
  refine tn_bi (v := 60) X dX4_init_5 (by decide) ?_
  refine p_newI X hP hS ka_int (by decide) (Nat.le_of_ble_eq_true rfl) (Nat.le_of_ble_eq_true rfl) dX4_init_7 (fun H hP hS => ?_)
  obtain ⟨E1, hq1⟩ : ∃ z, z = va_up E (i + 1) (aI G 60 (fun _ => 0)) := ⟨_, rfl⟩
  rw [← hq1] at hP
  have hi1 : E1 (i + 1) = aI G 60 (fun _ => 0) := by rw [hq1, va_up_self]
  have hn1 : ∀ y, y ≠ i + 1 → E1 y = E y := fun y hy => by rw [hq1, va_up_ne _ _ hy]
  clear hq1
  have hE100 : E1 i = .inr (4, [.null, .null, .null, .null, .int (nI 0)]) := by rw [hn1 i (by omega)]; exact hE
  refine p_putF (ty := .array .int) (fs' := [.ref (ra G (i + 1)), .null, .null, .null, .int (nI 0)]) (ci := 4) (C := RX4) (T := TX4) (N := 5) X hini hP hS inA4 tyX4_ok nmX4 (by omega) hE100 rfl 0 (by decide) kl_X4_9 rfl rfl (by decide +kernel) rfl rfl (Nat.le_of_ble_eq_true rfl) rfl dX4_init_9 (fun H locs hP hS => ?_)
  obtain ⟨E2, hq2⟩ : ∃ z, z = va_up E1 (i) (.inr (4, [.ref (ra G (i + 1)), .null, .null, .null, .int (nI 0)])) := ⟨_, rfl⟩
  rw [← hq2] at hP
  have hi2 : E2 (i) = .inr (4, [.ref (ra G (i + 1)), .null, .null, .null, .int (nI 0)]) := by rw [hq2, va_up_self]
  have hn2 : ∀ y, y ≠ i → E2 y = E1 y := fun y hy => by rw [hq2, va_up_ne _ _ hy]
  clear hq2
  refine lv_aload_n X.1 X.2.1 dX4_init_12 rfl (lv_at hl 0 rfl) ?_
  refine tn_bi (v := 60) X dX4_init_13 (by decide) ?_
  refine p_newI X hP hS ka_int (by decide) (Nat.le_of_ble_eq_true rfl) (Nat.le_of_ble_eq_true rfl) dX4_init_15 (fun H hP hS => ?_)
  obtain ⟨E3, hq3⟩ : ∃ z, z = va_up E2 (i + 2) (aI G 60 (fun _ => 0)) := ⟨_, rfl⟩
  rw [← hq3] at hP
  have hi3 : E3 (i + 2) = aI G 60 (fun _ => 0) := by rw [hq3, va_up_self]
  have hn3 : ∀ y, y ≠ i + 2 → E3 y = E2 y := fun y hy => by rw [hq3, va_up_ne _ _ hy]
  clear hq3
  have hE101 : E3 i = .inr (4, [.ref (ra G (i + 1)), .null, .null, .null, .int (nI 0)]) := by rw [hn3 i (by omega)]; exact hi2
  refine p_putF (ty := .array .int) (fs' := [.ref (ra G (i + 1)), .ref (ra G (i + 2)), .null, .null, .int (nI 0)]) (ci := 4) (C := RX4) (T := TX4) (N := 5) X hini hP hS inA4 tyX4_ok nmX4 (by omega) hE101 rfl 1 (by decide) kl_X4_15 rfl rfl (by decide +kernel) rfl rfl (Nat.le_of_ble_eq_true rfl) rfl dX4_init_17 (fun H locs hP hS => ?_)
  obtain ⟨E4, hq4⟩ : ∃ z, z = va_up E3 (i) (.inr (4, [.ref (ra G (i + 1)), .ref (ra G (i + 2)), .null, .null, .int (nI 0)])) := ⟨_, rfl⟩
  rw [← hq4] at hP
  have hi4 : E4 (i) = .inr (4, [.ref (ra G (i + 1)), .ref (ra G (i + 2)), .null, .null, .int (nI 0)]) := by rw [hq4, va_up_self]
  have hn4 : ∀ y, y ≠ i → E4 y = E3 y := fun y hy => by rw [hq4, va_up_ne _ _ hy]
  clear hq4
  refine lv_aload_n X.1 X.2.1 dX4_init_20 rfl (lv_at hl 0 rfl) ?_
  refine tn_bi (v := 9) X dX4_init_21 (by decide) ?_
  refine tn_bi (v := 60) X dX4_init_23 (by decide) ?_
  refine p_mna X hP hS kc_X4_18 hNA.2.2 ka_int (by decide) (by decide) (Nat.le_of_ble_eq_true rfl) (Nat.le_of_ble_eq_true rfl) dX4_init_25 (fun H hP hS => ?_)
  obtain ⟨E5, hq5⟩ : ∃ z, z = (fun x => if x < i + 1 + 1 + 1 then E4 x else if x = i + 1 + 1 + 1 then .inl (G.2.1.2.2.2, 9, .inr (.inr (.inr (.inr (fun j => if j < 9 then some (ra G (i + 1 + 1 + 1 + 1 + j)) else none))))) else aI G 60 (fun _ => 0)) := ⟨_, rfl⟩
  rw [← hq5] at hP
  have hlo5 : ∀ j, j < i + 3 → E5 j = E4 j := fun j hj => by rw [hq5]; exact if_pos (by omega)
  have hou5 : E5 (i + 3) = .inl (G.2.1.2.2.2, 9, .inr (.inr (.inr (.inr (fun j => if j < 9 then some (ra G (i + 3 + 1 + j)) else none))))) := by rw [hq5]; exact (if_neg (by omega)).trans (if_pos (by omega))
  have hro5 : ∀ j, i + 4 ≤ j → E5 j = aI G 60 (fun _ => 0) := fun j hj => by rw [hq5]; exact (if_neg (by omega)).trans (if_neg (by omega))
  clear hq5
  have hE105 : E5 i = .inr (4, [.ref (ra G (i + 1)), .ref (ra G (i + 2)), .null, .null, .int (nI 0)]) := by rw [hlo5 i (by omega)]; exact hi4
  refine p_putF (ty := .array (.array .int)) (fs' := [.ref (ra G (i + 1)), .ref (ra G (i + 2)), .ref (ra G (i + 3)), .null, .int (nI 0)]) (ci := 4) (C := RX4) (T := TX4) (N := 5) X hini hP hS inA4 tyX4_ok nmX4 (by omega) hE105 rfl 2 (by decide) kl_X4_20 rfl rfl (by decide +kernel) rfl rfl (Nat.le_of_ble_eq_true rfl) rfl dX4_init_29 (fun H locs hP hS => ?_)
  obtain ⟨E6, hq6⟩ : ∃ z, z = va_up E5 (i) (.inr (4, [.ref (ra G (i + 1)), .ref (ra G (i + 2)), .ref (ra G (i + 3)), .null, .int (nI 0)])) := ⟨_, rfl⟩
  rw [← hq6] at hP
  have hi6 : E6 (i) = .inr (4, [.ref (ra G (i + 1)), .ref (ra G (i + 2)), .ref (ra G (i + 3)), .null, .int (nI 0)]) := by rw [hq6, va_up_self]
  have hn6 : ∀ y, y ≠ i → E6 y = E5 y := fun y hy => by rw [hq6, va_up_ne _ _ hy]
  clear hq6
  replace hP : pM G E6 (i + 13) H := hP
  refine lv_aload_n X.1 X.2.1 dX4_init_32 rfl (lv_at hl 0 rfl) ?_
  refine tn_bi (v := 60) X dX4_init_33 (by decide) ?_
  refine p_newI X hP hS ka_int (by decide) (Nat.le_of_ble_eq_true rfl) (Nat.le_of_ble_eq_true rfl) dX4_init_35 (fun H hP hS => ?_)
  obtain ⟨E7, hq7⟩ : ∃ z, z = va_up E6 (i + 13) (aI G 60 (fun _ => 0)) := ⟨_, rfl⟩
  rw [← hq7] at hP
  have hi7 : E7 (i + 13) = aI G 60 (fun _ => 0) := by rw [hq7, va_up_self]
  have hn7 : ∀ y, y ≠ i + 13 → E7 y = E6 y := fun y hy => by rw [hq7, va_up_ne _ _ hy]
  clear hq7
  have hE103 : E7 i = .inr (4, [.ref (ra G (i + 1)), .ref (ra G (i + 2)), .ref (ra G (i + 3)), .null, .int (nI 0)]) := by rw [hn7 i (by omega)]; exact hi6
  refine p_putF (ty := .array .int) (fs' := [.ref (ra G (i + 1)), .ref (ra G (i + 2)), .ref (ra G (i + 3)), .ref (ra G (i + 13)), .int (nI 0)]) (ci := 4) (C := RX4) (T := TX4) (N := 5) X hini hP hS inA4 tyX4_ok nmX4 (by omega) hE103 rfl 3 (by decide) kl_X4_23 rfl rfl (by decide +kernel) rfl rfl (Nat.le_of_ble_eq_true rfl) rfl dX4_init_37 (fun H locs hP hS => ?_)
  obtain ⟨E8, hq8⟩ : ∃ z, z = va_up E7 (i) (.inr (4, [.ref (ra G (i + 1)), .ref (ra G (i + 2)), .ref (ra G (i + 3)), .ref (ra G (i + 13)), .int (nI 0)])) := ⟨_, rfl⟩
  rw [← hq8] at hP
  have hi8 : E8 (i) = .inr (4, [.ref (ra G (i + 1)), .ref (ra G (i + 2)), .ref (ra G (i + 3)), .ref (ra G (i + 13)), .int (nI 0)]) := by rw [hq8, va_up_self]
  have hn8 : ∀ y, y ≠ i → E8 y = E7 y := fun y hy => by rw [hq8, va_up_ne _ _ hy]
  clear hq8
  refine lv_aload_n X.1 X.2.1 dX4_init_40 rfl (lv_at hl 0 rfl) ?_
  refine tn_ic (v := 0) X dX4_init_41 (by decide) ?_
  refine p_put (ty := .int) (fs' := [.ref (ra G (i + 1)), .ref (ra G (i + 2)), .ref (ra G (i + 3)), .ref (ra G (i + 13)), .int (nI 0)]) (ci := 4) (C := RX4) (T := TX4) (N := 5) X hP hS inA4 tyX4_ok nmX4 (by omega) hi8 rfl 4 (by decide) kl_X4_26 rfl rfl (by decide +kernel) rfl rfl (Nat.le_of_ble_eq_true rfl) rfl dX4_init_42 (fun H locs hP hS => ?_)
  obtain ⟨E9, hq9⟩ : ∃ z, z = va_up E8 (i) (.inr (4, [.ref (ra G (i + 1)), .ref (ra G (i + 2)), .ref (ra G (i + 3)), .ref (ra G (i + 13)), .int (nI 0)])) := ⟨_, rfl⟩
  rw [← hq9] at hP
  have hi9 : E9 (i) = .inr (4, [.ref (ra G (i + 1)), .ref (ra G (i + 2)), .ref (ra G (i + 3)), .ref (ra G (i + 13)), .int (nI 0)]) := by rw [hq9, va_up_self]
  have hn9 : ∀ y, y ≠ i → E9 y = E8 y := fun y hy => by rw [hq9, va_up_ne _ _ hy]
  clear hq9
  exact rN (⟨hi9, by rw [hn9 _ (by omega), hn8 _ (by omega), hn7 _ (by omega), hn6 _ (by omega), hlo5 _ (by omega), hn4 _ (by omega), hn3 _ (by omega), hn2 _ (by omega)]; exact hi1, by rw [hn9 _ (by omega), hn8 _ (by omega), hn7 _ (by omega), hn6 _ (by omega), hlo5 _ (by omega), hn4 _ (by omega)]; exact hi3, by rw [hn9 _ (by omega), hn8 _ (by omega), hn7 _ (by omega), hn6 _ (by omega)]; exact hou5, fun j h1 h2 => tray_r hi7 h1 h2 (by rw [hn9 j (by omega), hn8 j (by omega)]) (fun h3 => by rw [hn7 j h3, hn6 j (by omega)]; exact hro5 j h1), fun j hj => by rw [hn9 j (by omega), hn8 j (by omega), hn7 j (by omega), hn6 j (by omega), hlo5 j (by omega), hn4 j (by omega), hn3 j (by omega), hn2 j (by omega), hn1 j (by omega)]⟩) X hP hS hret hlk dX4_init_45
end
section
/-! ===== CouponDesk() ===== -/
section RW8
variable {p : Program} {l : Launch} {e : Env} {R : Room} {s : State} {m : MethodId} {args : Array Value} {below : List Frame} {meth : Method} {c : Code} {H : Heap} {locs : List Loc} {cells slots : Nat} {Q : State → Prop}
variable {cc : ByteArray} {pc n : Nat} {ls : Array Slot} {rest : List Value} {own : String} {G : dG} {E : Nat → va_E} {k : Nat}
theorem p_get {C : String} {T : u_T} {N ci index i : Nat} {fs : List Value} {v : Value} (X : dC p s m args c cc n own G) (hP : pM G E k H) (hin : ∀ w ∈ u_ws C T N, w ∈ allW) (hi : i < k) (hE : E i = .inr (ci, fs)) (hc : dkCl[ci]? = some (C, T, N)) (f : Nat) (hf : f < N) (hlink : Cond.fieldLink own index (T f).1 (T f).2.1 (T f).2.2.1 ∈ allW) (hv : fs[f]? = some v) (hdg : decode cc pc = .ok (.getfield index, 3))
    (kk : W p l e R s m args below meth c H locs cells slots Q (F0 m (pc + 3) ls (v :: rest))) : W p l e R s m args below meth c H locs cells slots Q (F0 m pc ls (.ref (ra G i) :: rest)) := by
  obtain ⟨hx, hb, -, hown, hts, hK⟩ := X
  have h0 : va_P G.1 dkCl [(ra G i, .inr (ci, fs))] H := fun j q hj => by
    have hz : j < 1 := (List.getElem?_eq_some_iff.mp hj).1
    rw [show j = 0 by omega] at hj
    cases hj
    have := hP.2 i hi
    rw [hE] at this
    exact this
  exact va_get (D := G.1) (ci := ci) (C := C) (T := T) (N := N) hx hb hts hin hown hK.1 h0 0 rfl hc f hf (hts _ hlink) (fun _ h => h) hv hdg kk
end RW8
abbrev refsE (c : ClassId) (n : Nat) (f : Nat → Option Nat) : va_E := .inl (c, n, .inr (.inr (.inr (.inr f))))
def trayN (G : dG) (E : Nat → va_E) : Prop := E 7 = .inr (4, [.ref (ra G 8), .ref (ra G 9), .ref (ra G 10), .ref (ra G 20), .int (nI 0)]) ∧ E 8 = aI G 60 (fun _ => 0) ∧ E 9 = aI G 60 (fun _ => 0) ∧ E 10 = refsE G.2.1.2.2.2 9 (fun j => if j < 9 then some (ra G (11 + j)) else none) ∧ ∀ j, 11 ≤ j → j ≤ 20 → E j = aI G 60 (fun _ => 0)
def dskN (G : dG) (E : Nat → va_E) : Prop := E 0 = .inr (5, [.ref (ra G 1), .ref (ra G 5), .ref (ra G 6), .ref (ra G 7), .ref (ra G 21), .int (nI 0), .int (nI 0), .int (nI 0), .int (nI 0), .int (nI 1000000)]) ∧ lotN G 1 E ∧ trayN G E ∧ E 21 = .inr (3, [.int (nI 0), .int (nI 0), .int (nI 0), .int (nI 610001), .int (nI 610001)])
theorem dskN_keep {G : dG} {E E' : Nat → va_E} (h : dskN G E) (hk : ∀ j, j < 22 → j ≠ 5 → j ≠ 6 → E' j = E j) : dskN G E' := by
  obtain ⟨h1, h2, ⟨t1, t2, t3, t4, t5⟩, h4⟩ := h
  refine ⟨by rw [hk 0 (by decide) (by decide) (by decide)]; exact h1, ⟨by rw [hk 1 (by decide) (by decide) (by decide)]; exact h2.1, fun j g1 g2 => by rw [hk j (by omega) (by omega) (by omega)]; exact h2.2 j g1 g2⟩, ⟨by rw [hk 7 (by decide) (by decide) (by decide)]; exact t1, by rw [hk 8 (by decide) (by decide) (by decide)]; exact t2, by rw [hk 9 (by decide) (by decide) (by decide)]; exact t3, by rw [hk 10 (by decide) (by decide) (by decide)]; exact t4, fun j g1 g2 => by rw [hk j (by omega) (by omega) (by omega)]; exact t5 j g1 g2⟩, by rw [hk 21 (by decide) (by decide) (by decide)]; exact h4⟩
abbrev cou0 : va_E := .inr (0, [.int (nI 0), .int (nI 0), .int (nI 0), .int (nI 0), .int (nI 0), .int (nI 0)])
def ordN (G : dG) (x : Nat) (E : Nat → va_E) : Prop := E (30 + 5 * x) = .inr (2, [.ref (ra G (31 + 5 * x)), .int (nI 0), .int (nI 0), .int (nI 0)]) ∧ lotN G (31 + 5 * x) E
/-- the desk, new -/
def newN (G : dG) (E : Nat → va_E) : Prop := dskN G E ∧ (∃ f, E 5 = refsE G.2.1.2.1 8 f ∧ ∀ x, x < 8 → f x = some (ra G (22 + x))) ∧ (∃ f, E 6 = refsE G.2.1.2.2.1 12 f ∧ ∀ x, x < 12 → f x = some (ra G (30 + 5 * x))) ∧ (∀ x, x < 8 → E (22 + x) = cou0) ∧ ∀ x, x < 12 → ordN G x E
set_option maxHeartbeats 4000000 in
set_option maxRecDepth 100000 in
theorem c_X5_init {l : Launch} {G : dG} {E : Nat → va_E} (hE : E 0 = .inr (5, [.null, .null, .null, .null, .null, .int (nI 0), .int (nI 0), .int (nI 0), .int (nI 0), .int (nI 0)])) : cN l yX5_init cX5_init 2 3 89 1284 G (0) (1) (90) E (fun E' => newN G E') := by
  refine cN_of (by decide +kernel) rfl (Nat.le_of_ble_eq_true rfl) ?_
  intro p e s m args below meth c ls X hP hNA hini hret hlk hl
  have hS : pS G s.heap s.heap [] := va_S.rf
  replace hl : lv_has ls 2 [(0, _)] := hl
  refine lv_aload_n X.1 X.2.1 dX5_init_0 rfl (lv_at hl 0 rfl) ?_
  refine W.objInit X.1 X.2.1 X.2.2.2.1 (X.2.2.2.2.1 _ kl_X5_3) (X.2.2.2.2.1 _ mi_obj.1) (X.2.2.2.2.1 _ mi_obj.2) rfl (by rw [X.2.2.1]; exact hl.1) rfl dX5_init_1 (Nat.le_of_ble_eq_true rfl) (Nat.le_of_ble_eq_true rfl) ?_
  refine W.eq (g2 := F0 m 4 ls []) rfl ?_
  refine lv_aload_n X.1 X.2.1 dX5_init_4 rfl (lv_at hl 0 rfl) ?_
  refine p_new (ci := 1) (C := RX1) (T := TX1) (N := 3) (fs := [.null, .null, .null]) X hP hS inA1 tyX1_ok kc_X5_9 ki_X1 kn_X1 rfl (fun j hj => by rcases (show j = 0 ∨ j = 1 ∨ j = 2 by omega) with rfl | rfl | rfl <;> rfl) (by show _ ≤ 89; omega) (by show _ ≤ 1284; omega) dX5_init_5 (fun H hP hS => ?_)
  obtain ⟨E1, hq1⟩ : ∃ z, z = va_up E (1) (.inr (1, [.null, .null, .null])) := ⟨_, rfl⟩
  rw [← hq1] at hP
  have hi1 : E1 (1) = .inr (1, [.null, .null, .null]) := by rw [hq1, va_up_self]
  have hn1 : ∀ y, y ≠ 1 → E1 y = E y := fun y hy => by rw [hq1, va_up_ne _ _ hy]
  clear hq1
  refine lv_dup X.1 X.2.1 dX5_init_8 rfl ?_
  refine kNC X hP hS hl.1 (c_X1_init hi1) kl_X5_11 mi_X1 kn_X1 (by decide +kernel) hNA ⟨Nat.le_of_ble_eq_true rfl, Nat.le_of_ble_eq_true rfl⟩ ⟨by show _ ≤ 89; omega, by show _ ≤ 1284; omega⟩ rfl (Nat.le_of_ble_eq_true rfl) dX5_init_9 (fun E2 H locs hl2 hP hS => ?_)
  obtain ⟨hlot2, hk2⟩ := hl2
  have hE2 : E2 0 = .inr (5, [.null, .null, .null, .null, .null, .int (nI 0), .int (nI 0), .int (nI 0), .int (nI 0), .int (nI 0)]) := by rw [hk2 0 (by decide), hn1 0 (by decide)]; exact hE
  refine p_putF (ty := .object "CouponDesk$Lot") (fs' := [.ref (ra G 1), .null, .null, .null, .null, .int (nI 0), .int (nI 0), .int (nI 0), .int (nI 0), .int (nI 0)]) (ci := 5) (C := RX5) (T := TX5) (N := 10) X hini hP hS inA5 tyX5_ok nmX5 (by omega) hE2 rfl 0 (by decide) kl_X5_12 rfl rfl (by decide +kernel) rfl rfl (Nat.le_of_ble_eq_true rfl) rfl dX5_init_12 (fun H locs hP hS => ?_)
  obtain ⟨E3, hq3⟩ : ∃ z, z = va_up E2 (0) (.inr (5, [.ref (ra G 1), .null, .null, .null, .null, .int (nI 0), .int (nI 0), .int (nI 0), .int (nI 0), .int (nI 0)])) := ⟨_, rfl⟩
  rw [← hq3] at hP
  have hi3 : E3 (0) = .inr (5, [.ref (ra G 1), .null, .null, .null, .null, .int (nI 0), .int (nI 0), .int (nI 0), .int (nI 0), .int (nI 0)]) := by rw [hq3, va_up_self]
  have hn3 : ∀ y, y ≠ 0 → E3 y = E2 y := fun y hy => by rw [hq3, va_up_ne _ _ hy]
  clear hq3
  refine lv_aload_n X.1 X.2.1 dX5_init_15 rfl (lv_at hl 0 rfl) ?_
  refine tn_bi (v := 8) X dX5_init_16 (by decide) ?_
  refine p_newq (C := RX0) (t0 := 1) (cA := G.2.1.2.1) X hP hS kc_X5_16 hNA.1 rfl (by decide) (Nat.le_of_ble_eq_true rfl) (Nat.le_of_ble_eq_true rfl) dX5_init_18 (fun H hP hS => ?_)
  obtain ⟨E4, hq4⟩ : ∃ z, z = va_up E3 (5) (refsE G.2.1.2.1 8 (fun _ => none)) := ⟨_, rfl⟩
  rw [← hq4] at hP
  have hi4 : E4 (5) = refsE G.2.1.2.1 8 (fun _ => none) := by rw [hq4, va_up_self]
  have hn4 : ∀ y, y ≠ 5 → E4 y = E3 y := fun y hy => by rw [hq4, va_up_ne _ _ hy]
  clear hq4
  have hE101 : E4 0 = .inr (5, [.ref (ra G 1), .null, .null, .null, .null, .int (nI 0), .int (nI 0), .int (nI 0), .int (nI 0), .int (nI 0)]) := by rw [hn4 0 (by decide)]; exact hi3
  refine p_putF (ty := .array (.object "CouponDesk$Coupon")) (fs' := [.ref (ra G 1), .ref (ra G 5), .null, .null, .null, .int (nI 0), .int (nI 0), .int (nI 0), .int (nI 0), .int (nI 0)]) (ci := 5) (C := RX5) (T := TX5) (N := 10) X hini hP hS inA5 tyX5_ok nmX5 (by omega) hE101 rfl 1 (by decide) kl_X5_18 rfl rfl (by decide +kernel) rfl rfl (Nat.le_of_ble_eq_true rfl) rfl dX5_init_21 (fun H locs hP hS => ?_)
  obtain ⟨E5, hq5⟩ : ∃ z, z = va_up E4 (0) (.inr (5, [.ref (ra G 1), .ref (ra G 5), .null, .null, .null, .int (nI 0), .int (nI 0), .int (nI 0), .int (nI 0), .int (nI 0)])) := ⟨_, rfl⟩
  rw [← hq5] at hP
  have hi5 : E5 (0) = .inr (5, [.ref (ra G 1), .ref (ra G 5), .null, .null, .null, .int (nI 0), .int (nI 0), .int (nI 0), .int (nI 0), .int (nI 0)]) := by rw [hq5, va_up_self]
  have hn5 : ∀ y, y ≠ 0 → E5 y = E4 y := fun y hy => by rw [hq5, va_up_ne _ _ hy]
  clear hq5
  refine lv_aload_n X.1 X.2.1 dX5_init_24 rfl (lv_at hl 0 rfl) ?_
  refine tn_bi (v := 12) X dX5_init_25 (by decide) ?_
  refine p_newq (C := RX2) (t0 := 2) (cA := G.2.1.2.2.1) X hP hS kc_X5_22 hNA.2.1 rfl (by decide) (Nat.le_of_ble_eq_true rfl) (Nat.le_of_ble_eq_true rfl) dX5_init_27 (fun H hP hS => ?_)
  obtain ⟨E6, hq6⟩ : ∃ z, z = va_up E5 (6) (refsE G.2.1.2.2.1 12 (fun _ => none)) := ⟨_, rfl⟩
  rw [← hq6] at hP
  have hi6 : E6 (6) = refsE G.2.1.2.2.1 12 (fun _ => none) := by rw [hq6, va_up_self]
  have hn6 : ∀ y, y ≠ 6 → E6 y = E5 y := fun y hy => by rw [hq6, va_up_ne _ _ hy]
  clear hq6
  have hE102 : E6 0 = .inr (5, [.ref (ra G 1), .ref (ra G 5), .null, .null, .null, .int (nI 0), .int (nI 0), .int (nI 0), .int (nI 0), .int (nI 0)]) := by rw [hn6 0 (by decide)]; exact hi5
  refine p_putF (ty := .array (.object "CouponDesk$Order")) (fs' := [.ref (ra G 1), .ref (ra G 5), .ref (ra G 6), .null, .null, .int (nI 0), .int (nI 0), .int (nI 0), .int (nI 0), .int (nI 0)]) (ci := 5) (C := RX5) (T := TX5) (N := 10) X hini hP hS inA5 tyX5_ok nmX5 (by omega) hE102 rfl 2 (by decide) kl_X5_24 rfl rfl (by decide +kernel) rfl rfl (Nat.le_of_ble_eq_true rfl) rfl dX5_init_30 (fun H locs hP hS => ?_)
  obtain ⟨E7, hq7⟩ : ∃ z, z = va_up E6 (0) (.inr (5, [.ref (ra G 1), .ref (ra G 5), .ref (ra G 6), .null, .null, .int (nI 0), .int (nI 0), .int (nI 0), .int (nI 0), .int (nI 0)])) := ⟨_, rfl⟩
  rw [← hq7] at hP
  have hi7 : E7 (0) = .inr (5, [.ref (ra G 1), .ref (ra G 5), .ref (ra G 6), .null, .null, .int (nI 0), .int (nI 0), .int (nI 0), .int (nI 0), .int (nI 0)]) := by rw [hq7, va_up_self]
  have hn7 : ∀ y, y ≠ 0 → E7 y = E6 y := fun y hy => by rw [hq7, va_up_ne _ _ hy]
  clear hq7
  refine lv_aload_n X.1 X.2.1 dX5_init_33 rfl (lv_at hl 0 rfl) ?_
  refine p_new (ci := 4) (C := RX4) (T := TX4) (N := 5) (fs := [.null, .null, .null, .null, .int (nI 0)]) X hP hS inA4 tyX4_ok kc_X5_28 ki_X4 kn_X4 rfl (fun j hj => by rcases (show j = 0 ∨ j = 1 ∨ j = 2 ∨ j = 3 ∨ j = 4 by omega) with rfl | rfl | rfl | rfl | rfl <;> rfl) (by show _ ≤ 89; omega) (by show _ ≤ 1284; omega) dX5_init_34 (fun H hP hS => ?_)
  obtain ⟨E8, hq8⟩ : ∃ z, z = va_up E7 (7) (.inr (4, [.null, .null, .null, .null, .int (nI 0)])) := ⟨_, rfl⟩
  rw [← hq8] at hP
  have hi8 : E8 (7) = .inr (4, [.null, .null, .null, .null, .int (nI 0)]) := by rw [hq8, va_up_self]
  have hn8 : ∀ y, y ≠ 7 → E8 y = E7 y := fun y hy => by rw [hq8, va_up_ne _ _ hy]
  clear hq8
  refine lv_dup X.1 X.2.1 dX5_init_37 rfl ?_
  refine kNC X hP hS hl.1 (c_X4_init hi8) kl_X5_30 mi_X4 kn_X4 (by decide +kernel) hNA ⟨Nat.le_of_ble_eq_true rfl, Nat.le_of_ble_eq_true rfl⟩ ⟨by show _ ≤ 89; omega, by show _ ≤ 1284; omega⟩ rfl (Nat.le_of_ble_eq_true rfl) dX5_init_38 (fun E9 H locs hl2 hP hS => ?_)
  obtain ⟨ht1, ht2, ht3, ht4, ht5, hk9⟩ := hl2
  have hE9 : E9 0 = .inr (5, [.ref (ra G 1), .ref (ra G 5), .ref (ra G 6), .null, .null, .int (nI 0), .int (nI 0), .int (nI 0), .int (nI 0), .int (nI 0)]) := by rw [hk9 0 (by decide), hn8 0 (by decide)]; exact hi7
  refine p_putF (ty := .object "CouponDesk$Tray") (fs' := [.ref (ra G 1), .ref (ra G 5), .ref (ra G 6), .ref (ra G 7), .null, .int (nI 0), .int (nI 0), .int (nI 0), .int (nI 0), .int (nI 0)]) (ci := 5) (C := RX5) (T := TX5) (N := 10) X hini hP hS inA5 tyX5_ok nmX5 (by omega) hE9 rfl 3 (by decide) kl_X5_31 rfl rfl (by decide +kernel) rfl rfl (Nat.le_of_ble_eq_true rfl) rfl dX5_init_41 (fun H locs hP hS => ?_)
  obtain ⟨E10, hq10⟩ : ∃ z, z = va_up E9 (0) (.inr (5, [.ref (ra G 1), .ref (ra G 5), .ref (ra G 6), .ref (ra G 7), .null, .int (nI 0), .int (nI 0), .int (nI 0), .int (nI 0), .int (nI 0)])) := ⟨_, rfl⟩
  rw [← hq10] at hP
  have hi10 : E10 (0) = .inr (5, [.ref (ra G 1), .ref (ra G 5), .ref (ra G 6), .ref (ra G 7), .null, .int (nI 0), .int (nI 0), .int (nI 0), .int (nI 0), .int (nI 0)]) := by rw [hq10, va_up_self]
  have hn10 : ∀ y, y ≠ 0 → E10 y = E9 y := fun y hy => by rw [hq10, va_up_ne _ _ hy]
  clear hq10
  refine lv_aload_n X.1 X.2.1 dX5_init_44 rfl (lv_at hl 0 rfl) ?_
  refine p_new (ci := 3) (C := RX3) (T := TX3) (N := 5) (fs := [.int (nI 0), .int (nI 0), .int (nI 0), .int (nI 0), .int (nI 0)]) X hP hS inA3 tyX3_ok kc_X5_35 ki_X3 kn_X3 rfl (fun j hj => by rcases (show j = 0 ∨ j = 1 ∨ j = 2 ∨ j = 3 ∨ j = 4 by omega) with rfl | rfl | rfl | rfl | rfl <;> rfl) (by show _ ≤ 89; omega) (by show _ ≤ 1284; omega) dX5_init_45 (fun H hP hS => ?_)
  obtain ⟨E11, hq11⟩ : ∃ z, z = va_up E10 (21) (.inr (3, [.int (nI 0), .int (nI 0), .int (nI 0), .int (nI 0), .int (nI 0)])) := ⟨_, rfl⟩
  rw [← hq11] at hP
  have hi11 : E11 (21) = .inr (3, [.int (nI 0), .int (nI 0), .int (nI 0), .int (nI 0), .int (nI 0)]) := by rw [hq11, va_up_self]
  have hn11 : ∀ y, y ≠ 21 → E11 y = E10 y := fun y hy => by rw [hq11, va_up_ne _ _ hy]
  clear hq11
  refine lv_dup X.1 X.2.1 dX5_init_48 rfl ?_
  refine kNC X hP hS hl.1 (c_X3_init hi11 (by omega)) kl_X5_37 mi_X3 kn_X3 (by decide +kernel) hNA ⟨Nat.le_of_ble_eq_true rfl, Nat.le_of_ble_eq_true rfl⟩ ⟨by show _ ≤ 89; omega, by show _ ≤ 1284; omega⟩ rfl (Nat.le_of_ble_eq_true rfl) dX5_init_49 (fun E12 H locs hl2 hP hS => ?_)
  obtain ⟨hse12, hk12⟩ := hl2
  have hE12 : E12 0 = .inr (5, [.ref (ra G 1), .ref (ra G 5), .ref (ra G 6), .ref (ra G 7), .null, .int (nI 0), .int (nI 0), .int (nI 0), .int (nI 0), .int (nI 0)]) := by rw [hk12 0 (by decide), hn11 0 (by decide)]; exact hi10
  refine p_putF (ty := .object "CouponDesk$Search") (fs' := [.ref (ra G 1), .ref (ra G 5), .ref (ra G 6), .ref (ra G 7), .ref (ra G 21), .int (nI 0), .int (nI 0), .int (nI 0), .int (nI 0), .int (nI 0)]) (ci := 5) (C := RX5) (T := TX5) (N := 10) X hini hP hS inA5 tyX5_ok nmX5 (by omega) hE12 rfl 4 (by decide) kl_X5_38 rfl rfl (by decide +kernel) rfl rfl (Nat.le_of_ble_eq_true rfl) rfl dX5_init_52 (fun H locs hP hS => ?_)
  obtain ⟨E13, hq13⟩ : ∃ z, z = va_up E12 (0) (.inr (5, [.ref (ra G 1), .ref (ra G 5), .ref (ra G 6), .ref (ra G 7), .ref (ra G 21), .int (nI 0), .int (nI 0), .int (nI 0), .int (nI 0), .int (nI 0)])) := ⟨_, rfl⟩
  rw [← hq13] at hP
  have hi13 : E13 (0) = .inr (5, [.ref (ra G 1), .ref (ra G 5), .ref (ra G 6), .ref (ra G 7), .ref (ra G 21), .int (nI 0), .int (nI 0), .int (nI 0), .int (nI 0), .int (nI 0)]) := by rw [hq13, va_up_self]
  have hn13 : ∀ y, y ≠ 0 → E13 y = E12 y := fun y hy => by rw [hq13, va_up_ne _ _ hy]
  clear hq13
  refine lv_aload_n X.1 X.2.1 dX5_init_55 rfl (lv_at hl 0 rfl) ?_
  refine tn_ic (v := 0) X dX5_init_56 (by decide) ?_
  refine p_put (ty := .int) (fs' := [.ref (ra G 1), .ref (ra G 5), .ref (ra G 6), .ref (ra G 7), .ref (ra G 21), .int (nI 0), .int (nI 0), .int (nI 0), .int (nI 0), .int (nI 0)]) (ci := 5) (C := RX5) (T := TX5) (N := 10) X hP hS inA5 tyX5_ok nmX5 (by omega) hi13 rfl 5 (by decide) kl_X5_42 rfl rfl (by decide +kernel) rfl rfl (Nat.le_of_ble_eq_true rfl) rfl dX5_init_57 (fun H locs hP hS => ?_)
  obtain ⟨E14, hq14⟩ : ∃ z, z = va_up E13 (0) (.inr (5, [.ref (ra G 1), .ref (ra G 5), .ref (ra G 6), .ref (ra G 7), .ref (ra G 21), .int (nI 0), .int (nI 0), .int (nI 0), .int (nI 0), .int (nI 0)])) := ⟨_, rfl⟩
  rw [← hq14] at hP
  have hi14 : E14 (0) = .inr (5, [.ref (ra G 1), .ref (ra G 5), .ref (ra G 6), .ref (ra G 7), .ref (ra G 21), .int (nI 0), .int (nI 0), .int (nI 0), .int (nI 0), .int (nI 0)]) := by rw [hq14, va_up_self]
  have hn14 : ∀ y, y ≠ 0 → E14 y = E13 y := fun y hy => by rw [hq14, va_up_ne _ _ hy]
  clear hq14
  refine lv_aload_n X.1 X.2.1 dX5_init_60 rfl (lv_at hl 0 rfl) ?_
  refine tn_ic (v := 0) X dX5_init_61 (by decide) ?_
  refine p_put (ty := .int) (fs' := [.ref (ra G 1), .ref (ra G 5), .ref (ra G 6), .ref (ra G 7), .ref (ra G 21), .int (nI 0), .int (nI 0), .int (nI 0), .int (nI 0), .int (nI 0)]) (ci := 5) (C := RX5) (T := TX5) (N := 10) X hP hS inA5 tyX5_ok nmX5 (by omega) hi14 rfl 6 (by decide) kl_X5_46 rfl rfl (by decide +kernel) rfl rfl (Nat.le_of_ble_eq_true rfl) rfl dX5_init_62 (fun H locs hP hS => ?_)
  obtain ⟨E15, hq15⟩ : ∃ z, z = va_up E14 (0) (.inr (5, [.ref (ra G 1), .ref (ra G 5), .ref (ra G 6), .ref (ra G 7), .ref (ra G 21), .int (nI 0), .int (nI 0), .int (nI 0), .int (nI 0), .int (nI 0)])) := ⟨_, rfl⟩
  rw [← hq15] at hP
  have hi15 : E15 (0) = .inr (5, [.ref (ra G 1), .ref (ra G 5), .ref (ra G 6), .ref (ra G 7), .ref (ra G 21), .int (nI 0), .int (nI 0), .int (nI 0), .int (nI 0), .int (nI 0)]) := by rw [hq15, va_up_self]
  have hn15 : ∀ y, y ≠ 0 → E15 y = E14 y := fun y hy => by rw [hq15, va_up_ne _ _ hy]
  clear hq15
  refine lv_aload_n X.1 X.2.1 dX5_init_65 rfl (lv_at hl 0 rfl) ?_
  refine tn_ic (v := 0) X dX5_init_66 (by decide) ?_
  refine p_put (ty := .int) (fs' := [.ref (ra G 1), .ref (ra G 5), .ref (ra G 6), .ref (ra G 7), .ref (ra G 21), .int (nI 0), .int (nI 0), .int (nI 0), .int (nI 0), .int (nI 0)]) (ci := 5) (C := RX5) (T := TX5) (N := 10) X hP hS inA5 tyX5_ok nmX5 (by omega) hi15 rfl 7 (by decide) kl_X5_49 rfl rfl (by decide +kernel) rfl rfl (Nat.le_of_ble_eq_true rfl) rfl dX5_init_67 (fun H locs hP hS => ?_)
  obtain ⟨E16, hq16⟩ : ∃ z, z = va_up E15 (0) (.inr (5, [.ref (ra G 1), .ref (ra G 5), .ref (ra G 6), .ref (ra G 7), .ref (ra G 21), .int (nI 0), .int (nI 0), .int (nI 0), .int (nI 0), .int (nI 0)])) := ⟨_, rfl⟩
  rw [← hq16] at hP
  have hi16 : E16 (0) = .inr (5, [.ref (ra G 1), .ref (ra G 5), .ref (ra G 6), .ref (ra G 7), .ref (ra G 21), .int (nI 0), .int (nI 0), .int (nI 0), .int (nI 0), .int (nI 0)]) := by rw [hq16, va_up_self]
  have hn16 : ∀ y, y ≠ 0 → E16 y = E15 y := fun y hy => by rw [hq16, va_up_ne _ _ hy]
  clear hq16
  refine lv_aload_n X.1 X.2.1 dX5_init_70 rfl (lv_at hl 0 rfl) ?_
  refine tn_ic (v := 0) X dX5_init_71 (by decide) ?_
  refine p_put (ty := .int) (fs' := [.ref (ra G 1), .ref (ra G 5), .ref (ra G 6), .ref (ra G 7), .ref (ra G 21), .int (nI 0), .int (nI 0), .int (nI 0), .int (nI 0), .int (nI 0)]) (ci := 5) (C := RX5) (T := TX5) (N := 10) X hP hS inA5 tyX5_ok nmX5 (by omega) hi16 rfl 8 (by decide) kl_X5_52 rfl rfl (by decide +kernel) rfl rfl (Nat.le_of_ble_eq_true rfl) rfl dX5_init_72 (fun H locs hP hS => ?_)
  obtain ⟨E17, hq17⟩ : ∃ z, z = va_up E16 (0) (.inr (5, [.ref (ra G 1), .ref (ra G 5), .ref (ra G 6), .ref (ra G 7), .ref (ra G 21), .int (nI 0), .int (nI 0), .int (nI 0), .int (nI 0), .int (nI 0)])) := ⟨_, rfl⟩
  rw [← hq17] at hP
  have hi17 : E17 (0) = .inr (5, [.ref (ra G 1), .ref (ra G 5), .ref (ra G 6), .ref (ra G 7), .ref (ra G 21), .int (nI 0), .int (nI 0), .int (nI 0), .int (nI 0), .int (nI 0)]) := by rw [hq17, va_up_self]
  have hn17 : ∀ y, y ≠ 0 → E17 y = E16 y := fun y hy => by rw [hq17, va_up_ne _ _ hy]
  clear hq17
  refine lv_aload_n X.1 X.2.1 dX5_init_75 rfl (lv_at hl 0 rfl) ?_
  refine tn_ldc (w := 1000000) X kl_X5_55 (by decide) dX5_init_76 ?_
  refine p_put (ty := .int) (fs' := [.ref (ra G 1), .ref (ra G 5), .ref (ra G 6), .ref (ra G 7), .ref (ra G 21), .int (nI 0), .int (nI 0), .int (nI 0), .int (nI 0), .int (nI 1000000)]) (ci := 5) (C := RX5) (T := TX5) (N := 10) X hP hS inA5 tyX5_ok nmX5 (by omega) hi17 rfl 9 (by decide) kl_X5_56 rfl rfl (by decide +kernel) rfl rfl (Nat.le_of_ble_eq_true rfl) rfl dX5_init_78 (fun H locs hP hS => ?_)
  obtain ⟨E18, hq18⟩ : ∃ z, z = va_up E17 (0) (.inr (5, [.ref (ra G 1), .ref (ra G 5), .ref (ra G 6), .ref (ra G 7), .ref (ra G 21), .int (nI 0), .int (nI 0), .int (nI 0), .int (nI 0), .int (nI 1000000)])) := ⟨_, rfl⟩
  rw [← hq18] at hP
  have hi18 : E18 (0) = .inr (5, [.ref (ra G 1), .ref (ra G 5), .ref (ra G 6), .ref (ra G 7), .ref (ra G 21), .int (nI 0), .int (nI 0), .int (nI 0), .int (nI 0), .int (nI 1000000)]) := by rw [hq18, va_up_self]
  have hn18 : ∀ y, y ≠ 0 → E18 y = E17 y := fun y hy => by rw [hq18, va_up_ne _ _ hy]
  clear hq18
  have hk18 : ∀ j, j ≠ 0 → E18 j = E12 j := fun j hj => by rw [hn18 j hj, hn17 j hj, hn16 j hj, hn15 j hj, hn14 j hj, hn13 j hj]
  have hb18 : ∀ j, j ≠ 0 → j ≠ 21 → E18 j = E9 j := fun j h1 h2 => by rw [hk18 j h1, hk12 j h2, hn11 j h2, hn10 j h1]
  have hc18 : ∀ j, j ≠ 0 → j < 7 → E18 j = E6 j := fun j h1 h2 => by rw [hb18 j h1 (by omega), hk9 j h2, hn8 j (by omega), hn7 j h1]
  have hd18 : dskN G E18 := ⟨hi18, ⟨by rw [hc18 1 (by decide) (by decide), hn6 1 (by decide), hn5 1 (by decide), hn4 1 (by decide), hn3 1 (by decide)]; exact hlot2.1, fun j h1 h2 => by rw [hc18 j (by omega) (by omega), hn6 j (by omega), hn5 j (by omega), hn4 j (by omega), hn3 j (by omega)]; exact hlot2.2 j h1 h2⟩, ⟨by rw [hb18 7 (by decide) (by decide)]; exact ht1, by rw [hb18 8 (by decide) (by decide)]; exact ht2, by rw [hb18 9 (by decide) (by decide)]; exact ht3, by rw [hb18 10 (by decide) (by decide)]; exact ht4, fun j h1 h2 => by rw [hb18 j (by omega) (by omega)]; exact ht5 j (by omega) (by omega)⟩, by rw [hk18 21 (by decide)]; exact hse12⟩
  have h5 : E18 5 = refsE G.2.1.2.1 8 (fun _ => none) := by rw [hc18 5 (by decide) (by decide), hn6 5 (by decide), hn5 5 (by decide)]; exact hi4
  have h6 : E18 6 = refsE G.2.1.2.2.1 12 (fun _ => none) := by rw [hc18 6 (by decide) (by decide)]; exact hi6
  have Lo : ∀ (z j : Nat) (E : Nat → va_E) (f : Nat → Option Nat), j + z = 12 → dskN G E → (∃ f, E 5 = refsE G.2.1.2.1 8 f ∧ ∀ x, x < 8 → f x = some (ra G (22 + x))) → E 6 = refsE G.2.1.2.2.1 12 f → (∀ x, x < j → f x = some (ra G (30 + 5 * x))) → (∀ x, x < 8 → E (22 + x) = cou0) → (∀ x, x < j → ordN G x E) → ∀ (ls : Array Slot) (H : Heap) (locs : List Loc), pM G E (30 + 5 * j) H → pS G s.heap H locs → lv_has ls 2 [(0, .ref (ra G 0)), (1, .int (nI j))] → W p l e (rmC 3 89 1284) s m args below meth c H locs (29 + 5 * j) (840 + 37 * j) (MQ below (nQ G (90) (fun E' => newN G E')) args s 89 1284 (pA G)) (F0 m 110 ls []) := by
    intro z
    induction z with
    | zero =>
      intro j E f hj hd0 h5 h6 hf hc0 ho ls H locs hP hS hl
      refine lv_iload_n X.1 X.2.1 dX5_init_110 rfl (lv_at hl 1 rfl) ?_
      refine tn_bi (v := 12) X dX5_init_111 (by decide) ?_
      refine tn_ge (tgt := 135) X dX5_init_113 (by decide) (by omega) (by decide) (fun h => ?_) (fun h => ?_)
      · obtain rfl : j = 12 := by omega
        exact rN ⟨hd0, h5, ⟨f, h6, hf⟩, hc0, ho⟩ X hP hS hret hlk dX5_init_135
      · exfalso; omega
    | succ z ih =>
      intro j E f hj hd0 h5 h6 hf hc0 ho ls H locs hP hS hl
      refine lv_iload_n X.1 X.2.1 dX5_init_110 rfl (lv_at hl 1 rfl) ?_
      refine tn_bi (v := 12) X dX5_init_111 (by decide) ?_
      refine tn_ge (tgt := 135) X dX5_init_113 (by decide) (by omega) (by decide) (fun h => ?_) (fun h => ?_)
      · exfalso; omega
      · refine lv_aload_n X.1 X.2.1 dX5_init_116 rfl (lv_at hl 0 rfl) ?_
        refine p_get (ci := 5) (C := RX5) (T := TX5) (N := 10) X hP inA5 (by omega) hd0.1 rfl 2 (by decide) kl_X5_24 rfl dX5_init_117 ?_
        refine lv_iload_n X.1 X.2.1 dX5_init_120 rfl (lv_at hl 1 rfl) ?_
        refine p_new (ci := 2) (C := RX2) (T := TX2) (N := 4) (fs := [.null, .int (nI 0), .int (nI 0), .int (nI 0)]) X hP hS inA2 tyX2_ok kc_X5_22 ki_X2 kn_X2 rfl (fun j hj => by rcases (show j = 0 ∨ j = 1 ∨ j = 2 ∨ j = 3 by omega) with rfl | rfl | rfl | rfl <;> rfl) (by show _ ≤ 89; omega) (by show _ ≤ 1284; omega) dX5_init_121 (fun H hP hS => ?_)
        obtain ⟨E21, hq21⟩ : ∃ z, z = va_up E (30 + 5 * j) (.inr (2, [.null, .int (nI 0), .int (nI 0), .int (nI 0)])) := ⟨_, rfl⟩
        rw [← hq21] at hP
        have hi21 : E21 (30 + 5 * j) = .inr (2, [.null, .int (nI 0), .int (nI 0), .int (nI 0)]) := by rw [hq21, va_up_self]
        have hn21 : ∀ y, y ≠ 30 + 5 * j → E21 y = E y := fun y hy => by rw [hq21, va_up_ne _ _ hy]
        clear hq21
        refine lv_dup X.1 X.2.1 dX5_init_124 rfl ?_
        refine kNC X hP hS hl.1 (c_X2_init hi21) kl_X5_60 mi_X2 kn_X2 (by decide +kernel) hNA ⟨Nat.le_of_ble_eq_true rfl, Nat.le_of_ble_eq_true rfl⟩ ⟨by show _ ≤ 89; omega, by show _ ≤ 1284; omega⟩ rfl (Nat.le_of_ble_eq_true rfl) dX5_init_125 (fun E22 H locs hl2 hP hS => ?_)
        obtain ⟨ho22, hlot22, hk22⟩ := hl2
        have h622 : E22 6 = refsE G.2.1.2.2.1 12 f := by rw [hk22 6 (by omega), hn21 6 (by omega)]; exact h6
        refine p_aast (i := 6) (q := 30 + 5 * j) (t0 := 2) (ci := 2) (r := (RX2, TX2, 4)) X hP hS (by omega) (by omega) h622 ho22 rfl rfl (by omega) (by decide) dX5_init_128 (fun H locs hP hS => ?_)
        obtain ⟨E23, hq23⟩ : ∃ z, z = va_up E22 (6) (refsE G.2.1.2.2.1 12 (va_up f j (some (ra G (30 + 5 * j))))) := ⟨_, rfl⟩
        rw [← hq23] at hP
        have hi23 : E23 (6) = refsE G.2.1.2.2.1 12 (va_up f j (some (ra G (30 + 5 * j)))) := by rw [hq23, va_up_self]
        have hn23 : ∀ y, y ≠ 6 → E23 y = E22 y := fun y hy => by rw [hq23, va_up_ne _ _ hy]
        clear hq23
        refine tn_inc (k := 1) (w := 1) X dX5_init_129 hl rfl (by decide) (by decide) rfl (fun ls hl => ?_)
        replace hl : lv_has ls 2 [(1, _), (0, _)] := hl
        refine lv_goto (tgt := 110) X.1 X.2.1 dX5_init_132 (by decide) ?_
        have hlow : ∀ y, y < 30 + 5 * j → y ≠ 6 → E23 y = E y := fun y h1 h2 => by rw [hn23 y h2, hk22 y h1, hn21 y (by omega)]
        refine W.widen (k := 29 + 5 * (j + 1)) (n := 840 + 37 * (j + 1)) (by omega) (by omega) (ih (j + 1) E23 _ (by omega) (dskN_keep hd0 (fun y h1 _ h2 => hlow y (by omega) h2)) ?_ hi23 (fun x hx => ?_) (fun x hx => by rw [hlow _ (by omega) (by omega)]; exact hc0 x hx) (fun x hx => ?_) ls H locs (by rw [show 30 + 5 * (j + 1) = 30 + 5 * j + 5 by omega]; exact hP) hS (lv_sub hl [1, 0] rfl))
        · obtain ⟨g, g1, g2⟩ := h5
          exact ⟨g, by rw [hlow 5 (by omega) (by decide)]; exact g1, g2⟩
        · by_cases e9 : x = j
          · rw [e9, va_up_self]
          · rw [va_up_ne _ _ e9]; exact hf x (by omega)
        · by_cases e9 : x = j
          · rw [e9]
            exact ⟨by rw [hn23 _ (by omega), ho22, show 30 + 5 * j + 1 = 31 + 5 * j by omega], lotN_keep (by rw [show 31 + 5 * j = 30 + 5 * j + 1 by omega]; exact hlot22) (fun y h1 => hn23 y (by omega))⟩
          · have h9 := ho x (by omega)
            exact ⟨by rw [hlow _ (by omega) (by omega)]; exact h9.1, ⟨by rw [hlow _ (by omega) (by omega)]; exact h9.2.1, fun y g1 g2 => by rw [hlow y (by omega) (by omega)]; exact h9.2.2 y g1 g2⟩⟩
  have Lc : ∀ (z j : Nat) (E : Nat → va_E) (f : Nat → Option Nat), j + z = 8 → dskN G E → E 5 = refsE G.2.1.2.1 8 f → (∀ x, x < j → f x = some (ra G (22 + x))) → E 6 = refsE G.2.1.2.2.1 12 (fun _ => none) → (∀ x, x < j → E (22 + x) = cou0) → ∀ (ls : Array Slot) (H : Heap) (locs : List Loc), pM G E (22 + j) H → pS G s.heap H locs → lv_has ls 2 [(0, .ref (ra G 0)), (1, .int (nI j))] → W p l e (rmC 3 89 1284) s m args below meth c H locs (21 + j) (792 + 6 * j) (MQ below (nQ G (90) (fun E' => newN G E')) args s 89 1284 (pA G)) (F0 m 83 ls []) := by
    intro z
    induction z with
    | zero =>
      intro j E f hj hd0 h5 hf h6 hc0 ls H locs hP hS hl
      refine lv_iload_n X.1 X.2.1 dX5_init_83 rfl (lv_at hl 1 rfl) ?_
      refine tn_bi (v := 8) X dX5_init_84 (by decide) ?_
      refine tn_ge (tgt := 108) X dX5_init_86 (by decide) (by omega) (by decide) (fun h => ?_) (fun h => ?_)
      · obtain rfl : j = 8 := by omega
        refine tn_ic (v := 0) X dX5_init_108 (by decide) ?_
        refine lv_istore_n X.1 X.2.1 dX5_init_109 rfl hl (by decide) rfl (fun ls hl => ?_)
        replace hl : lv_has ls 2 [(1, _), (0, _)] := hl
        exact Lo 12 0 E _ rfl hd0 ⟨f, h5, hf⟩ h6 (fun x hx => absurd hx (Nat.not_lt_zero x)) hc0 (fun x hx => absurd hx (Nat.not_lt_zero x)) ls H locs hP hS (lv_sub hl [1, 0] rfl)
      · exfalso; omega
    | succ z ih =>
      intro j E f hj hd0 h5 hf h6 hc0 ls H locs hP hS hl
      refine lv_iload_n X.1 X.2.1 dX5_init_83 rfl (lv_at hl 1 rfl) ?_
      refine tn_bi (v := 8) X dX5_init_84 (by decide) ?_
      refine tn_ge (tgt := 108) X dX5_init_86 (by decide) (by omega) (by decide) (fun h => ?_) (fun h => ?_)
      · exfalso; omega
      · refine lv_aload_n X.1 X.2.1 dX5_init_89 rfl (lv_at hl 0 rfl) ?_
        refine p_get (ci := 5) (C := RX5) (T := TX5) (N := 10) X hP inA5 (by omega) hd0.1 rfl 1 (by decide) kl_X5_18 rfl dX5_init_90 ?_
        refine lv_iload_n X.1 X.2.1 dX5_init_93 rfl (lv_at hl 1 rfl) ?_
        refine p_new (ci := 0) (C := RX0) (T := TX0) (N := 6) (fs := [.int (nI 0), .int (nI 0), .int (nI 0), .int (nI 0), .int (nI 0), .int (nI 0)]) X hP hS inA0 tyX0_ok kc_X5_16 ki_X0 kn_X0 rfl (fun j hj => by rcases (show j = 0 ∨ j = 1 ∨ j = 2 ∨ j = 3 ∨ j = 4 ∨ j = 5 by omega) with rfl | rfl | rfl | rfl | rfl | rfl <;> rfl) (by show _ ≤ 89; omega) (by show _ ≤ 1284; omega) dX5_init_94 (fun H hP hS => ?_)
        obtain ⟨E21, hq21⟩ : ∃ z, z = va_up E (22 + j) (.inr (0, [.int (nI 0), .int (nI 0), .int (nI 0), .int (nI 0), .int (nI 0), .int (nI 0)])) := ⟨_, rfl⟩
        rw [← hq21] at hP
        have hi21 : E21 (22 + j) = .inr (0, [.int (nI 0), .int (nI 0), .int (nI 0), .int (nI 0), .int (nI 0), .int (nI 0)]) := by rw [hq21, va_up_self]
        have hn21 : ∀ y, y ≠ 22 + j → E21 y = E y := fun y hy => by rw [hq21, va_up_ne _ _ hy]
        clear hq21
        refine lv_dup X.1 X.2.1 dX5_init_97 rfl ?_
        refine kNC X hP hS hl.1 (c_X0_init hi21 (by omega)) kl_X5_59 mi_X0 kn_X0 (by decide +kernel) hNA ⟨Nat.le_of_ble_eq_true rfl, Nat.le_of_ble_eq_true rfl⟩ ⟨by show _ ≤ 89; omega, by show _ ≤ 1284; omega⟩ rfl (Nat.le_of_ble_eq_true rfl) dX5_init_98 (fun E22 H locs hl2 hP hS => ?_)
        obtain ⟨hc22, hk22⟩ := hl2
        have h522 : E22 5 = refsE G.2.1.2.1 8 f := by rw [hk22 5 (by omega), hn21 5 (by omega)]; exact h5
        refine p_aast (i := 5) (q := 22 + j) (t0 := 1) (ci := 0) (r := (RX0, TX0, 6)) X hP hS (by omega) (by omega) h522 hc22 rfl rfl (by omega) (by decide) dX5_init_101 (fun H locs hP hS => ?_)
        obtain ⟨E23, hq23⟩ : ∃ z, z = va_up E22 (5) (refsE G.2.1.2.1 8 (va_up f j (some (ra G (22 + j))))) := ⟨_, rfl⟩
        rw [← hq23] at hP
        have hi23 : E23 (5) = refsE G.2.1.2.1 8 (va_up f j (some (ra G (22 + j)))) := by rw [hq23, va_up_self]
        have hn23 : ∀ y, y ≠ 5 → E23 y = E22 y := fun y hy => by rw [hq23, va_up_ne _ _ hy]
        clear hq23
        refine tn_inc (k := 1) (w := 1) X dX5_init_102 hl rfl (by decide) (by decide) rfl (fun ls hl => ?_)
        replace hl : lv_has ls 2 [(1, _), (0, _)] := hl
        refine lv_goto (tgt := 83) X.1 X.2.1 dX5_init_105 (by decide) ?_
        have hlow : ∀ y, y < 22 + j → y ≠ 5 → E23 y = E y := fun y h1 h2 => by rw [hn23 y h2, hk22 y (by omega), hn21 y (by omega)]
        refine W.widen (k := 21 + (j + 1)) (n := 792 + 6 * (j + 1)) (by omega) (by omega) (ih (j + 1) E23 _ (by omega) (dskN_keep hd0 (fun y h1 h2 _ => hlow y (by omega) h2)) hi23 (fun x hx => ?_) (by rw [hlow 6 (by omega) (by decide)]; exact h6) (fun x hx => ?_) ls H locs hP hS (lv_sub hl [1, 0] rfl))
        · by_cases e9 : x = j
          · rw [e9, va_up_self]
          · rw [va_up_ne _ _ e9]; exact hf x (by omega)
        · by_cases e9 : x = j
          · rw [e9, hn23 _ (by omega)]; exact hc22
          · rw [hlow _ (by omega) (by omega)]; exact hc0 x (by omega)
  refine tn_ic (v := 0) X dX5_init_81 (by decide) ?_
  refine lv_istore_n X.1 X.2.1 dX5_init_82 rfl hl (by decide) rfl (fun ls hl => ?_)
  replace hl : lv_has ls 2 [(1, _), (0, _)] := hl
  exact Lc 8 0 E18 _ rfl hd18 h5 (fun x hx => absurd hx (Nat.not_lt_zero x)) h6 (fun x hx => absurd hx (Nat.not_lt_zero x)) ls H locs hP hS (lv_sub hl [1, 0] rfl)
/-- the numbers of a new desk -/
def nu0 : Mm := fun i j => if i = 0 ∧ j = 9 then 1000000 else if i = 21 ∧ (j = 3 ∨ j = 4) then 610001 else 0
theorem arrV_congr {c : ClassId} {n : Nat} {f g : Nat → Value} (h : ∀ j, j < n → f j = g j) : arrV c n f = arrV c n g := by
  unfold arrV
  congr 1
  apply Array.ext
  · simp
  · intro i h1 h2
    simp at h1 ⊢
    exact h i (by simpa using h1)
theorem refs_at {D : va_G} {c : ClassId} {n a : Nat} {f : Nat → Option Nat} {g : Nat → Nat} {H : Heap} (h : va_at D dkCl (a, refsE c n f) H) (hfg : ∀ j, j < n → f j = some (g j)) : va_at D dkCl (a, aR c n g) H := by
  have h1 : H[a]? = some (arrV c n (fun j => va_rf (f j))) := h
  show H[a]? = some (arrV c n (fun j => va_rf (some (g j))))
  rw [h1]
  congr 1
  exact arrV_congr (fun j hj => by rw [hfg j hj])
theorem newN_dM {G : dG} {E : Nat → va_E} {H : Heap} (hN : newN G E) (hP : pM G E 90 H) : dM G nu0 H := by
  obtain ⟨⟨h0, h1, ⟨t1, t2, t3, t4, t5⟩, h21⟩, ⟨f5, e5, g5⟩, ⟨f6, e6, g6⟩, hc, ho⟩ := hN
  have hrow : ∀ (i n : Nat), (∀ j, nu0 i j = 0) → E i = aI G n (fun _ => 0) → E i = aI G n (nu0 i) := fun i n hz he => by
    rw [he]; unfold aI
    have : (fun j => nI (nu0 i j)) = (fun _ => nI 0) := funext fun j => by rw [hz j]
    rw [this]
  have hz : ∀ i j, i ≠ 0 → i ≠ 21 → nu0 i j = 0 := fun i j a b => by simp [nu0, a, b]
  intro i hi
  have hat := hP.2 i hi
  by_cases c5 : i = 5
  · subst c5; rw [e5] at hat; exact refs_at hat g5
  by_cases c6 : i = 6
  · subst c6; rw [e6] at hat; exact refs_at hat g6
  by_cases c10 : i = 10
  · subst c10; rw [t4] at hat; exact refs_at hat (fun j hj => if_pos hj)
  have key : E i = dE G i (nu0 i) := by
    by_cases c0 : i = 0
    · subst c0; rw [h0]; rfl
    by_cases c21 : i = 21
    · subst c21; rw [h21]; rfl
    have hzi : ∀ j, nu0 i j = 0 := fun j => hz i j c0 c21
    by_cases c1 : i = 1
    · subst c1; exact h1.1
    by_cases c4 : i ≤ 4
    · have e := h1.2 i (by omega) (by omega)
      obtain ⟨c, rfl⟩ : ∃ c, i = 1 + c := ⟨i - 1, by omega⟩
      rw [dE_lotA lotB_1 (by omega) (by omega)]
      exact hrow _ 10 hzi e
    by_cases c7 : i = 7
    · subst c7; rw [t1]; rfl
    by_cases c8 : i = 8
    · subst c8; exact hrow 8 60 hzi t2
    by_cases c9 : i = 9
    · subst c9; exact hrow 9 60 hzi t3
    by_cases c20 : i ≤ 20
    · have e := t5 i (by omega) (by omega)
      by_cases d20 : i = 20
      · subst d20; exact hrow 20 60 hzi e
      · obtain ⟨c, rfl⟩ : ∃ c, i = 11 + c := ⟨i - 11, by omega⟩
        rw [dE_row (by omega)]
        exact hrow _ 60 hzi e
    by_cases c29 : i ≤ 29
    · obtain ⟨c, rfl⟩ : ∃ c, i = 22 + c := ⟨i - 22, by omega⟩
      rw [dE_cou (by omega), hc c (by omega)]
      simp only [hzi]
    obtain ⟨x, y, hxy, hx, hy⟩ : ∃ x y, i = 30 + 5 * x + y ∧ x < 12 ∧ y < 5 := ⟨(i - 30) / 5, (i - 30) % 5, by omega, by omega, by omega⟩
    have hox := ho x hx
    by_cases y0 : y = 0
    · obtain rfl : i = 30 + 5 * x := by omega
      rw [dE_ord hx, hox.1]
      simp only [hzi]
    by_cases y1 : y = 1
    · obtain rfl : i = 31 + 5 * x := by omega
      rw [dE_lot (lotB_o hx)]; exact hox.2.1
    · obtain ⟨c, hc1, rfl⟩ : ∃ c, c = y - 1 ∧ i = 31 + 5 * x + c := ⟨y - 1, rfl, by omega⟩
      have e := hox.2.2 (31 + 5 * x + c) (by omega) (by omega)
      rw [dE_lotA (lotB_o hx) (by omega) (by omega)]
      exact hrow _ 10 hzi e
  rw [key] at hat
  exact hat
theorem nu0_WD : WD nu0 := by
  have hz : ∀ i j, i ≠ 0 → i ≠ 21 → nu0 i j = 0 := fun i j a b => by simp [nu0, a, b]
  refine ⟨fun L hL a ha => ?_, fun k hk => ?_, fun k hk => ?_, ?_⟩
  · have := lotB_1m hL
    rw [hz _ _ (by omega) (by omega), hz _ _ (by omega) (by omega), hz _ _ (by omega) (by omega)]
    exact ⟨by decide, by decide, by decide⟩
  · unfold couOK
    simp only [hz (22 + k) _ (by omega) (by omega)]
    decide
  · unfold ordOK
    simp only [hz (30 + 5 * k) _ (by omega) (by omega)]
    decide
  · decide
end
section
/-! ===== the law's own helpers: below, cell; and rows of the law's frames over the desk and the law's own int arrays ===== -/
theorem mf_L_below : mfS yL_below cL_below 2 2 (some .int) := ⟨allW_in (tb_in 504 (by decide +kernel)) rfl, allW_in (tb_in 0 (by decide +kernel)) rfl, allW_in (tb_in 505 (by decide +kernel)) rfl, ⟨by decide +kernel, by decide +kernel, by decide +kernel⟩⟩
theorem mf_L_cell : mfS yL_cell cL_cell 2 2 (some .int) := ⟨allW_in (tb_in 508 (by decide +kernel)) rfl, allW_in (tb_in 0 (by decide +kernel)) rfl, allW_in (tb_in 509 (by decide +kernel)) rfl, ⟨by decide +kernel, by decide +kernel, by decide +kernel⟩⟩
theorem mf_L_build : mfS yL_build cL_build 12 7 (some (.array .int)) := ⟨allW_in (tb_in 512 (by decide +kernel)) rfl, allW_in (tb_in 0 (by decide +kernel)) rfl, allW_in (tb_in 513 (by decide +kernel)) rfl, ⟨by decide +kernel, by decide +kernel, by decide +kernel⟩⟩
/-- nothing is changed -/
abbrev noA : Nat → Prop := fun _ => False
abbrev sPc (G : dG) (Pre : State → Prop) (av : List Value) : Array Value → State → Prop := va_Pc av (fun U => dK G U ∧ Pre U)
abbrev sQ (P : Int32 → Prop) : Array Value → State → Outcome → State → Prop := va_Qi (fun (x : Int32) (_ : Unit) => P x) (fun _ _ => True) noA
/-- a helper of the law's that changes nothing and answers an int with P -/
def sI (l : Launch) (y : MethodName) (b : ByteArray) (n d : Nat) (G : dG) (av : List Value) (Pre : State → Prop) (P : Int32 → Prop) : Prop :=
  Met l y (wsD y b n (some .int)) (rmD d) (sPc G Pre av) (sQ P) 0 0 noA
theorem sI_of {l : Launch} {y : MethodName} {b : ByteArray} {n d : Nat} {G : dG} {av : List Value} {Pre : State → Prop} {P : Int32 → Prop} (hy : plainName y.cls = true) (hn : (lg_sl av).length ≤ n)
    (body : ∀ (p : Program) (e : Env) (s : State) (m : MethodId) (args : Array Value) (below : List Frame) (meth : Method) (c : Code) (ls : Array Slot), dC p s m args c b n y.cls G → Pre s → meth.sig.returnType = some .int → meth.locks = false → lv_has ls n (lv_args 0 av) →
      W p l e (rmD d) s m args below meth c s.heap [] 0 0 (MQ below (sQ P) args s 0 0 noA) (F0 m 0 ls [])) : sI l y b n d G av Pre P := by
  refine Met.ofW (cc := b) (maxL := n) (ret := some .int) hy rfl ?_
  intro p e s m args below meth c s₁ B hml hv
  obtain ⟨rfl, hK, hpre⟩ := hv
  have hts := atoms_spec (ws := wsD y b n (some .int)) B.pre
  have hl := lv_entry av hn
  rw [lg_entry_eq]
  exact body p e s m _ below meth c _ ⟨B.exec, B.bytes, hml, findClass_of_methodNamed B.named, fun w h => hts w (List.mem_cons_of_mem _ h), hK⟩ hpre B.returns B.notSynchronized hl
theorem low31 (v : Int32) : ∃ a, a < 2 ^ 31 ∧ v &&& 2147483647 = nI a := by
  refine ⟨(v.toBitVec &&& 2147483647#32).toNat, ?_, ?_⟩
  · rw [BitVec.toNat_and]
    exact Nat.lt_of_le_of_lt Nat.and_le_right (by decide)
  · apply Int32.toBitVec_inj.mp
    rw [Int32.toBitVec_and]
    show v.toBitVec &&& 2147483647#32 = BitVec.ofNat 32 _
    rw [BitVec.ofNat_toNat, BitVec.setWidth_eq]
set_option maxRecDepth 100000 in
theorem c_L_below {l : Launch} {G : dG} {v : Int32} {n : Nat} (h0 : 0 < n) (hn : n < 2 ^ 31) : sI l yL_below cL_below 2 1 G [.int v, .int (nI n)] (fun _ => True) (fun x => ∃ r, r < n ∧ x = nI r) := by
  refine sI_of (by decide +kernel) (Nat.le_of_ble_eq_true rfl) ?_
  intro p e s m args below meth c ls X _ hret hlk hl
  refine lv_iload_n X.1 X.2.1 dL_below_0 rfl (lv_at hl 0 rfl) ?_
  refine lv_ldc X.1 X.2.1 X.2.2.2.1 (X.2.2.2.2.1 _ kl_L_7) dL_below_1 ?_
  refine lv_iand X.1 X.2.1 dL_below_3 ?_
  obtain ⟨a, ha, ea⟩ := low31 v
  rw [ea]
  refine lv_iload_n X.1 X.2.1 dL_below_4 rfl (lv_at hl 1 rfl) ?_
  refine lv_irem X.1 X.2.1 dL_below_5 (nI_ne0 h0 hn) ?_
  rw [pk_rem ha h0 hn]
  exact W.iret X.1 X.2.1 hret (fun t ht hW => ⟨⟨nI (a % n), (), rfl, ⟨_, Nat.mod_lt _ h0, rfl⟩, trivial⟩, va_S.rf.F ht⟩) (fun _ h => absurd h List.not_mem_nil) dL_below_6 hlk
/-- the script lies there -/
def hasX (b : Nat) (U : State) : Prop := ∃ L xs, L ≤ 260 ∧ b < U.heap.size ∧ va_X b L xs U U.heap
set_option maxRecDepth 100000 in
theorem c_L_cell {l : Launch} {G : dG} {b k : Nat} (hk : k < 2 ^ 30) : sI l yL_cell cL_cell 2 1 G [.ref b, .int (nI k)] (hasX b) (fun _ => True) := by
  refine sI_of (by decide +kernel) (Nat.le_of_ble_eq_true rfl) ?_
  intro p e s m args below meth c ls X hx hret hlk hl
  obtain ⟨L, xs, hL, hbl, hX⟩ := hx
  have hS : va_S noA s.heap s.heap [] := va_S.rf
  have fin : ∀ (x : Int32), W p l e (rmD 1) s m args below meth c s.heap [] 0 0 (MQ below (sQ (fun _ => True)) args s 0 0 noA) (F0 m 18 ls [.int x]) := fun x =>
    W.iret X.1 X.2.1 hret (fun t ht hW => ⟨⟨x, (), rfl, trivial, trivial⟩, va_S.rf.F ht⟩) (fun _ h => absurd h List.not_mem_nil) dL_cell_18 hlk
  refine lv_iload_n X.1 X.2.1 dL_cell_0 rfl (lv_at hl 1 rfl) ?_
  refine lv_aload_n X.1 X.2.1 dL_cell_1 rfl (lv_at hl 0 rfl) ?_
  refine va_slen X.1 X.2.1 hX hbl (fun h => h) hS dL_cell_2 ?_
  refine tn_ge (a := k) (b := L) (tgt := 12) X dL_cell_3 (by decide) (by omega) (by omega) (fun h3 => ?_) (fun h3 => ?_)
  · refine lv_ldc X.1 X.2.1 X.2.2.2.1 (X.2.2.2.2.1 _ kl_L_8) dL_cell_12 ?_
    refine lv_iload_n X.1 X.2.1 dL_cell_14 rfl (lv_at hl 1 rfl) ?_
    refine tn_ic (v := 3) X dL_cell_15 (by decide) ?_
    refine lv_iadd X.1 X.2.1 dL_cell_16 ?_
    refine lv_imul X.1 X.2.1 dL_cell_17 ?_
    exact fin _
  · refine lv_aload_n X.1 X.2.1 dL_cell_6 rfl (lv_at hl 0 rfl) ?_
    refine lv_iload_n X.1 X.2.1 dL_cell_7 rfl (lv_at hl 1 rfl) ?_
    refine va_sld X.1 X.2.1 hX hbl (fun h => h) hS (vp_in_nI h3 (by omega)) dL_cell_8 ?_
    refine lv_goto (tgt := 18) X.1 X.2.1 dL_cell_9 (by decide) ?_
    exact fin _
/-- the desk, and int arrays behind it -/
def xM (G : dG) (ν : Mm) (ws : va_W) (H : Heap) : Prop := dM G ν H ∧ va_P G.1 dkCl ws H ∧ va_D (pA G) ws ∧ (∀ (k : Nat) (q : Nat × va_E), ws[k]? = some q → G.2.2 + 90 ≤ q.1 ∧ q.1 < H.size) ∧ G.2.2 + 90 ≤ H.size
theorem notdA {G : dG} {a sz : Nat} (h1 : G.2.2 + 90 ≤ a) (h2 : a < sz) : ¬ dA G sz a := by
  rintro (⟨i, hi, rfl⟩ | h)
  · unfold ra at h1; omega
  · omega
theorem xM.keep {G : dG} {ν ν' : Mm} {ws : va_W} {H H1 : Heap} (h : xM G ν ws H) (hM : dM G ν' H1) (hz : H.size ≤ H1.size) (ho : ∀ q : Nat, q < H.size → ¬ dA G H.size q → H1[q]? = H[q]?) : xM G ν' ws H1 := by
  obtain ⟨h1, h2, h3, h4, h5⟩ := h
  refine ⟨hM, fun k q hk => ?_, h3, fun k q hk => ⟨(h4 k q hk).1, Nat.lt_of_lt_of_le (h4 k q hk).2 hz⟩, Nat.le_trans h5 hz⟩
  exact (h2 k q hk).kept (ho _ (h4 k q hk).2 (notdA (h4 k q hk).1 (h4 k q hk).2))
theorem xM.same {G : dG} {ν : Mm} {ws : va_W} {H H1 : Heap} (h : xM G ν ws H) (hz : H.size ≤ H1.size) (ho : ∀ q : Nat, q < H.size → H1[q]? = H[q]?) : xM G ν ws H1 :=
  h.keep (fun i hi => (h.1 i hi).kept (ho _ (by have := h.2.2.2.2; show ra G i < _; unfold ra; omega))) hz (fun q hq _ => ho q hq)
end
section
/-! ===== rows of the law's frames ===== -/
section RW8
variable {p : Program} {l : Launch} {e : Env} {R : Room} {s : State} {m : MethodId} {args : Array Value} {below : List Frame} {meth : Method} {c : Code} {H : Heap} {locs : List Loc} {cells slots : Nat} {Q : State → Prop}
variable {cc : ByteArray} {pc n nL nY d index : Nat} {ls : Array Slot} {rest st As : List Value} {own : String} {G : dG} {ν : Mm} {ws : va_W} {H0 : Heap} {y : MethodName} {b : ByteArray} {ret : Option FieldType}
theorem tn_sar {x z : Int32} (X : dC p s m args c cc n own G) (hdg : decode cc pc = .ok (.ishr, 1)) (k : ∀ w : Int32, W p l e R s m args below meth c H locs cells slots Q (F0 m (pc + 1) ls (.int w :: rest))) : W p l e R s m args below meth c H locs cells slots Q (F0 m pc ls (.int z :: .int x :: rest)) :=
  lv_ishr X.1 X.2.1 hdg (k _)
theorem tn_rem {a b : Nat} (X : dC p s m args c cc n own G) (hdg : decode cc pc = .ok (.irem, 1)) (ha : a < 2 ^ 31) (h0 : 0 < b) (hb : b < 2 ^ 31) (k : W p l e R s m args below meth c H locs cells slots Q (F0 m (pc + 1) ls (.int (nI (a % b)) :: rest))) : W p l e R s m args below meth c H locs cells slots Q (F0 m pc ls (.int (nI b) :: .int (nI a) :: rest)) :=
  lv_irem X.1 X.2.1 hdg (nI_ne0 h0 hb) (by rw [pk_rem ha h0 hb]; exact k)
theorem sPc_blind {Pre : State → Prop} (hp : ∀ (U : State) (g : JFrame) (mk : MethodId) (a : Array Value), Pre U → Pre (U.calling g mk a)) (av : List Value) : FrameBlind (sPc G Pre av) := fun a U g mk q => by
  obtain ⟨q0, q1, q2⟩ := q
  exact ⟨q0, q1.calling, hp U g mk a q2⟩
/-- a helper that changes nothing -/
theorem kLS {Pre : State → Prop} {P : Int32 → Prop} (hp : ∀ (U : State) (g : JFrame) (mk : MethodId) (a : Array Value), Pre U → Pre (U.calling g mk a)) (hpre : ∀ U : State, U.heap = H → s.WarmedH U.vm → Pre U) (X : dC p s m args c cc nL own G) (hM : xM G ν ws H) (hS : pS G H0 H locs) (hl : ls.size = nL) (hc : sI l y b nY d G As Pre P) (hlink : Cond.methodLink own index y ∈ allW) (mf : mfS y b nY As.length (some .int)) (hR : d + 1 ≤ R.frames ∧ 8 + (nY + 11) + 40 * d ≤ R.locals) (hcs : cells ≤ R.cells ∧ slots ≤ R.slots) (hstk : st = As.reverse ++ rest) (hst : (rest.map fun v => v.category).sum ≤ 8) (hdg : decode cc pc = .ok (.invokestatic index, 3))
    (kk : ∀ (r : Int32) (H1 : Heap) (locs1 : List Loc), P r → xM G ν ws H1 → pS G H0 H1 locs1 → H.size ≤ H1.size → (∀ q : Nat, q < H.size → H1[q]? = H[q]?) → W p l e R s m args below meth c H1 locs1 cells slots Q (F0 m (pc + 3) ls (.int r :: rest))) : W p l e R s m args below meth c H locs cells slots Q (F0 m pc ls st) := by
  subst hstk
  obtain ⟨m1, m3, m4, m5⟩ := mf
  refine va_calli (va_runS (As := As) (rest := rest) ⟨X.1, X.2.1, X.2.2.1, X.2.2.2.1, X.2.2.2.2.1⟩ hc ⟨kB X m3 m4 hlink m5 hR, X.2.2.2.2.1 _ m1⟩ ⟨sPc_blind hp As, fun U hU hW => ⟨rfl, X.2.2.2.2.2.warm hW, hpre U hU hW⟩⟩ rfl rfl hl rfl (lv_room hst) hdg hcs) hS (fun q _ h => h.elim) (fun q h => h.elim) (fun r1 u t H1 locs1 ht hvm hw hB hz ho hS1 => ?_)
  exact kk r1 H1 locs1 hw (hM.same hz fun q hq => ho q hq (fun h => h)) hS1 hz (fun q hq => ho q hq (fun h => h))
theorem dA_pA {H : Heap} (h : G.2.2 + 90 ≤ H.size) : ∀ q : Nat, dA G H.size q → pA G q := by
  rintro q (⟨i, hi, rfl⟩ | h1)
  · exact pA_ra G i
  · show G.2.2 ≤ q; omega
/-- a call of the desk's -/
theorem kLD {P : Nat → Mm → Prop} (X : dC p s m args c cc nL own G) (hM : xM G ν ws H) (hS : pS G H0 H locs) (hl : ls.size = nL) (hc : cI l y b nY ret d G (.ref (ra G 0) :: As) ν P) (hqc : RX5 = y.cls) (hlink : Cond.methodLink own index y ∈ allW) (mf : mfV y b nY As.length ret) (hR : d + 1 ≤ R.frames ∧ 8 + (nY + 11) + 40 * d ≤ R.locals) (hcs : cells ≤ R.cells ∧ slots ≤ R.slots) (hstk : st = As.reverse ++ .ref (ra G 0) :: rest) (hst : (rest.map fun v => v.category).sum ≤ 8) (hdg : decode cc pc = .ok (.invokevirtual index, 3))
    (kk : ∀ (r : Nat) (ν' : Mm) (H1 : Heap) (locs1 : List Loc), P r ν' → xM G ν' ws H1 → pS G H0 H1 locs1 → W p l e R s m args below meth c H1 locs1 cells slots Q (F0 m (pc + 3) ls (.int (nI r) :: rest))) : W p l e R s m args below meth c H locs cells slots Q (F0 m pc ls st) := by
  subst hstk
  obtain ⟨m1, m2, m3, m4, m5⟩ := mf
  refine va_calli (va_runV (As := As) (rest := rest) ⟨X.1, X.2.1, X.2.2.1, X.2.2.2.1, X.2.2.2.2.1⟩ (hc H.size) ⟨kB X m3 m4 hlink m5 hR, X.2.2.2.2.1 _ m1, X.2.2.2.2.1 _ m2⟩ (kPreV X hM.1 (by decide) (dE_desk G _) (show dkCl[5]? = some _ from rfl) hqc) rfl rfl hl rfl (lv_room hst) hdg hcs) hS (fun q _ h => dA_pA hM.2.2.2.2 q h) (dA_pA hM.2.2.2.2) (fun r1 u t H1 locs1 ht hvm hw hB hz ho hS1 => ?_)
  rw [ht] at hB
  rw [hw.1]
  exact kk u.1 u.2 H1 locs1 hw.2 (hM.keep hB hz ho) hS1
/-- a static method of the JDK's over the desk's memory -/
theorem kLJ {P : Nat → Mm → Prop} (X : dC p s m args c cc nL own G) (hM : xM G ν ws H) (hS : pS G H0 H locs) (hl : ls.size = nL) (hc : cI l y b nY ret d G As ν P) (hlink : Cond.methodLink own index y ∈ allW) (mf : mfS y b nY As.length ret) (hR : d + 1 ≤ R.frames ∧ 8 + (nY + 11) + 40 * d ≤ R.locals) (hcs : cells ≤ R.cells ∧ slots ≤ R.slots) (hstk : st = As.reverse ++ rest) (hst : (rest.map fun v => v.category).sum ≤ 8) (hdg : decode cc pc = .ok (.invokestatic index, 3))
    (kk : ∀ (r : Nat) (ν' : Mm) (H1 : Heap) (locs1 : List Loc), P r ν' → xM G ν' ws H1 → pS G H0 H1 locs1 → W p l e R s m args below meth c H1 locs1 cells slots Q (F0 m (pc + 3) ls (.int (nI r) :: rest))) : W p l e R s m args below meth c H locs cells slots Q (F0 m pc ls st) := by
  subst hstk
  obtain ⟨m1, m3, m4, m5⟩ := mf
  refine va_calli (va_runS (As := As) (rest := rest) ⟨X.1, X.2.1, X.2.2.1, X.2.2.2.1, X.2.2.2.2.1⟩ (hc H.size) ⟨kB X m3 m4 hlink m5 hR, X.2.2.2.2.1 _ m1⟩ (kPreS X hM.1) rfl rfl hl rfl (lv_room hst) hdg hcs) hS (fun q _ h => dA_pA hM.2.2.2.2 q h) (dA_pA hM.2.2.2.2) (fun r1 u t H1 locs1 ht hvm hw hB hz ho hS1 => ?_)
  rw [ht] at hB
  rw [hw.1]
  exact kk u.1 u.2 H1 locs1 hw.2 (hM.keep hB hz ho) hS1
/-- places of the law's own arrays -/
theorem x_iald {q N j a : Nat} {r : Nat → Nat} (X : dC p s m args c cc n own G) (hM : xM G ν ws H) (hE : ws[q]? = some (a, aI G N r)) (hj : j < N) (hN : N < 2 ^ 31) (hdg : decode cc pc = .ok (.iaload, 1))
    (kk : W p l e R s m args below meth c H locs cells slots Q (F0 m (pc + 1) ls (.int (nI (r j)) :: rest))) : W p l e R s m args below meth c H locs cells slots Q (F0 m pc ls (.int (nI j) :: .ref a :: rest)) := by
  obtain ⟨hx, hb, -, hown, hts, hK⟩ := X
  have hc : (nI j).toNatClampNeg = j := nI_clamp (by omega)
  refine va_iald (D := G.1) (cA := G.2.1.1) (n := N) (f := fun j => nI (r j)) hx hb hK.1 hM.2.1 q 0 hE rfl (vp_in_nI hj hN) hdg ?_
  rw [hc]
  exact kk
theorem x_iast {q N j a w : Nat} {r : Nat → Nat} {ws' : va_W} (X : dC p s m args c cc n own G) (hM : xM G ν ws H) (hS : pS G H0 H locs) (hE : ws[q]? = some (a, aI G N r)) (hj : j < N) (hN : N < 2 ^ 31) (hw : ws.set q (a, aI G N (va_up r j w)) = ws') (hdg : decode cc pc = .ok (.iastore, 1))
    (kk : ∀ (H1 : Heap) (locs1 : List Loc), xM G ν ws' H1 → pS G H0 H1 locs1 → W p l e R s m args below meth c H1 locs1 cells slots Q (F0 m (pc + 1) ls rest)) : W p l e R s m args below meth c H locs cells slots Q (F0 m pc ls (.int (nI w) :: .int (nI j) :: .ref a :: rest)) := by
  subst hw
  obtain ⟨hx, hb, -, hown, hts, hK⟩ := X
  obtain ⟨g1, g2, g3, g4, g5⟩ := hM
  have hc : (nI j).toNatClampNeg = j := nI_clamp (by omega)
  have ga := g4 q _ hE
  refine W.iast hx hb (g2 q _ hE) ((hK.1.2 0 _ rfl).1 N (fun k => .int (nI (r k)))) (fun q => by cases q) (by show ¬ (nI j < 0 ∨ (arrV _ _ _).slots.size ≤ _); rw [arrV_size]; exact vp_in_nI hj hN) rfl rfl hdg fun H1 e z oq => ?_
  have e1 : va_at G.1 dkCl (a, aI G N (va_up r j w)) H1 := by
    show H1[a]? = some (vp_cell _ _)
    rw [e]
    show some ((vp_cell G.2.1.1 (N, .inl (fun k => nI (r k)))).setSlot _ _) = _
    rw [hc, vp_cell_i, vp_cell_i, arrV_store]
    congr 2
    funext k
    by_cases hq : k = j
    · subst hq; simp [updV, va_up]
    · simp [updV, va_up, hq]
  refine kk H1 _ ⟨fun i hi => (g1 i hi).kept (oq _ (by have := ga.1; show ra G i ≠ a; unfold ra; omega)), g2.set g3 hE e1 oq, g3.set hE, fun k x hk => ?_, by rw [z]; exact g5⟩ (hS.put z oq (g3.2 q _ hE))
  rw [z]
  by_cases hkq : k = q
  · subst hkq
    have hlt : k < ws.length := (List.getElem?_eq_some_iff.mp hE).1
    rw [List.getElem?_set_self hlt] at hk
    obtain rfl := Option.some.inj hk
    exact ga
  · rw [List.getElem?_set_ne (Ne.symm hkq)] at hk
    exact g4 k x hk
theorem x_newI {N : Nat} {ws' : Nat → va_W} (X : dC p s m args c cc n own G) (hM : xM G ν ws H) (hS : pS G H0 H locs) (hN : N < 2 ^ 27) (hcells : cells + 1 ≤ R.cells) (hslots : slots + N ≤ R.slots) (hw : ∀ a : Nat, ws ++ [(a, aI G N (fun _ => 0))] = ws' a) (hdg : decode cc pc = .ok (.newarray .int, 2))
    (kk : ∀ (a : Nat) (H1 : Heap), xM G ν (ws' a) H1 → pS G H0 H1 locs → W p l e R s m args below meth c H1 locs (cells + 1) (slots + N) Q (F0 m (pc + 2) ls (.ref a :: rest))) : W p l e R s m args below meth c H locs cells slots Q (F0 m pc ls (.int (nI N) :: rest)) := by
  obtain ⟨hx, hb, -, hown, hts, hK⟩ := X
  refine va_newaK hx hb (atype := .int) (hts _ ka_int) rfl hdg rfl (nI_pos (by omega)) (nI_clamp (by omega)) (by show N * 4 ≤ 536870912; omega) hcells hslots rfl fun H1 cA e1 z1 o1 hAr hNm => ?_
  have hcA : cA = G.2.1.1 := by
    have h2 : s.vm.findClass ("[" ++ FieldType.int.toString) = some G.2.1.1 := (hK.1.2 0 _ rfl).2
    exact Option.some.inj (hNm.symm.trans h2)
  subst hcA
  have o2 : ∀ q : Nat, q < H.size → H1[q]? = H[q]? := fun q hq => o1 q hq
  have hM1 := hM.same (H1 := H1) (by omega) o2
  obtain ⟨g1, g2, g3, g4, g5⟩ := hM1
  refine kk H.size H1 ?_ (pS.grow hS (by omega) o2)
  rw [← hw]
  have h5 := hM.2.2.2.2
  refine ⟨g1, fun k x hk => ?_, ⟨fun i j x y hi hj exy => ?_, fun k x hk => ?_⟩, fun k x hk => ?_, by omega⟩
  · rcases Nat.lt_or_ge k ws.length with h | h
    · rw [List.getElem?_append_left h] at hk; exact g2 k x hk
    · rw [List.getElem?_append_right h] at hk
      have hk0 : k - ws.length = 0 := by
        have := (List.getElem?_eq_some_iff.mp hk).1
        simp at this; omega
      rw [hk0] at hk
      obtain rfl := Option.some.inj hk
      exact e1
  · rcases Nat.lt_or_ge i ws.length with hil | hil
    · rw [List.getElem?_append_left hil] at hi
      have hix := hM.2.2.2.1 i x hi
      rcases Nat.lt_or_ge j ws.length with hjl | hjl
      · rw [List.getElem?_append_left hjl] at hj
        exact g3.1 i j x y hi hj exy
      · rw [List.getElem?_append_right hjl] at hj
        have hk0 : j - ws.length = 0 := by
          have := (List.getElem?_eq_some_iff.mp hj).1
          simp at this; omega
        rw [hk0] at hj
        obtain rfl := Option.some.inj hj
        have e3 : x.1 = H.size := exy
        omega
    · rw [List.getElem?_append_right hil] at hi
      have hk0 : i - ws.length = 0 := by
        have := (List.getElem?_eq_some_iff.mp hi).1
        simp at this; omega
      rw [hk0] at hi
      obtain rfl := Option.some.inj hi
      rcases Nat.lt_or_ge j ws.length with hjl | hjl
      · rw [List.getElem?_append_left hjl] at hj
        have hjx := hM.2.2.2.1 j y hj
        have e3 : H.size = y.1 := exy
        omega
      · rw [List.getElem?_append_right hjl] at hj
        have hk1 : j - ws.length = 0 := by
          have := (List.getElem?_eq_some_iff.mp hj).1
          simp at this; omega
        omega
  · rcases Nat.lt_or_ge k ws.length with h | h
    · rw [List.getElem?_append_left h] at hk; exact g3.2 k x hk
    · rw [List.getElem?_append_right h] at hk
      have hk0 : k - ws.length = 0 := by
        have := (List.getElem?_eq_some_iff.mp hk).1
        simp at this; omega
      rw [hk0] at hk
      obtain rfl := Option.some.inj hk
      show G.2.2 ≤ H.size
      omega
  · rcases Nat.lt_or_ge k ws.length with h | h
    · rw [List.getElem?_append_left h] at hk; exact g4 k x hk
    · rw [List.getElem?_append_right h] at hk
      have hk0 : k - ws.length = 0 := by
        have := (List.getElem?_eq_some_iff.mp hk).1
        simp at this; omega
      rw [hk0] at hk
      obtain rfl := Option.some.inj hk
      show G.2.2 + 90 ≤ H.size ∧ H.size < H1.size
      omega
end RW8
end
section
/-! ===== what the law builds, in numbers ===== -/
/-- a desk with its articles and coupons, and nothing sold -/
def bOK (many c : Nat) (ν : Mm) : Prop := WD ν ∧ ν 0 5 = many ∧ ν 0 6 = c ∧ ν 0 7 = 0 ∧ ∀ i, many ≤ i → ν 4 i = 0
theorem bOK_0 : bOK 0 0 nu0 := ⟨nu0_WD, rfl, rfl, rfl, fun i _ => by simp [nu0]⟩
theorem WD.upD {ν : Mm} {j v : Nat} (h : WD ν) (hc : va_up (ν 0) j v 5 ≤ 10 ∧ va_up (ν 0) j v 6 ≤ 8 ∧ va_up (ν 0) j v 7 ≤ 12 ∧ va_up (ν 0) j v 8 ≤ 10000 ∧ va_up (ν 0) j v 9 ≤ 1000000) : WD (up2 ν 0 j v) := h.upC (cOK_d hc)
theorem bOK.art {ν : Mm} {a pr ca : Nat} (h : bOK a 0 ν) (ha : a < 10) (h1 : pr ≤ 10000) (h2 : ca ≤ 7) : bOK (a + 1) 0 (up2 (up2 (up2 ν 2 (ν 0 5) pr) 3 (ν 0 5) ca) 0 5 (ν 0 5 + 1)) := by
  obtain ⟨hW, e5, e6, e7, hz⟩ := h
  have w1 : WD (up2 ν 2 (ν 0 5) pr) := hW.upP lotB_1 h1
  have w2 : WD (up2 (up2 ν 2 (ν 0 5) pr) 3 (ν 0 5) ca) := w1.upK lotB_1 h2
  have e0 : up2 (up2 ν 2 (ν 0 5) pr) 3 (ν 0 5) ca 0 = ν 0 := by rw [up2_ne (by decide), up2_ne (by decide)]
  refine ⟨w2.upD ?_, ?_, ?_, ?_, fun i hi => ?_⟩
  · rw [e0]
    simp only [va_up_self, va_up_ne _ _ (show (6 : Nat) ≠ 5 by decide), va_up_ne _ _ (show (7 : Nat) ≠ 5 by decide), va_up_ne _ _ (show (8 : Nat) ≠ 5 by decide), va_up_ne _ _ (show (9 : Nat) ≠ 5 by decide)]
    have := hW.nc; have := hW.no; have := hW.fe; have := hW.li
    exact ⟨by omega, by omega, by omega, by omega, by omega⟩
  · rw [up2_at, e5]
  · rw [up2_ne2 (by decide), e0, e6]
  · rw [up2_ne2 (by decide), e0, e7]
  · rw [up2_ne (by decide), up2_ne (by decide), up2_ne (by decide)]
    exact hz i (by omega)
theorem bOK.put {ν : Mm} {a b c n : Nat} (h : bOK b c ν) (ha : a < b) (h1 : n ≤ 6) : bOK b c (up2 ν 4 a n) := by
  obtain ⟨hW, e5, e6, e7, hz⟩ := h
  refine ⟨hW.upN lotB_1 h1, ?_, ?_, ?_, fun i hi => ?_⟩
  · rw [up2_ne (by decide), e5]
  · rw [up2_ne (by decide), e6]
  · rw [up2_ne (by decide), e7]
  · rw [up2_ne2 (by omega)]; exact hz i hi
theorem bOK.ship {ν : Mm} {b c fe li : Nat} (h : bOK b c ν) (h1 : fe ≤ 10000) (h2 : li ≤ 1000000) : bOK b c (up2 (up2 ν 0 8 fe) 0 9 li) := by
  obtain ⟨hW, e5, e6, e7, hz⟩ := h
  have := hW.na; have := hW.nc; have := hW.no; have := hW.fe; have := hW.li
  have w1 : WD (up2 ν 0 8 fe) := hW.upD (by
    simp only [va_up_self, va_up_ne _ _ (show (5 : Nat) ≠ 8 by decide), va_up_ne _ _ (show (6 : Nat) ≠ 8 by decide), va_up_ne _ _ (show (7 : Nat) ≠ 8 by decide), va_up_ne _ _ (show (9 : Nat) ≠ 8 by decide)]
    exact ⟨by omega, by omega, by omega, by omega, by omega⟩)
  refine ⟨w1.upD ?_, ?_, ?_, ?_, fun i hi => ?_⟩
  · rw [up2_row]
    simp only [va_up_self, va_up_ne _ _ (show (5 : Nat) ≠ 9 by decide), va_up_ne _ _ (show (6 : Nat) ≠ 9 by decide), va_up_ne _ _ (show (7 : Nat) ≠ 9 by decide), va_up_ne _ _ (show (8 : Nat) ≠ 9 by decide), va_up_ne _ _ (show (5 : Nat) ≠ 8 by decide), va_up_ne _ _ (show (6 : Nat) ≠ 8 by decide), va_up_ne _ _ (show (7 : Nat) ≠ 8 by decide)]
    exact ⟨by omega, by omega, by omega, by omega, by omega⟩
  · rw [up2_ne2 (by decide), up2_ne2 (by decide), e5]
  · rw [up2_ne2 (by decide), up2_ne2 (by decide), e6]
  · rw [up2_ne2 (by decide), up2_ne2 (by decide), e7]
  · rw [up2_ne (by decide), up2_ne (by decide)]; exact hz i hi
theorem up2_row2 (ν : Mm) (i j k v w : Nat) : up2 (up2 ν i j v) i k w = va_up ν i (va_up (va_up (ν i) j v) k w) := by
  funext a
  by_cases e : a = i
  · subst e; rw [up2_row, up2_row, va_up_self]
  · rw [up2_ne e, up2_ne e, va_up_ne _ _ e]
theorem va_up2 (ν : Mm) (i : Nat) (r : Nat → Nat) (k w : Nat) : up2 (va_up ν i r) i k w = va_up ν i (va_up r k w) := by
  funext a
  by_cases e : a = i
  · subst e; rw [up2_row, va_up_self, va_up_self]
  · rw [up2_ne e, va_up_ne _ _ e, va_up_ne _ _ e]
theorem bOK.cou {ν : Mm} {b c kd v cs mi gr : Nat} (h : bOK b c ν) (hc : c < 8) (h1 : vk kd v) (h2 : cs ≤ 255) (h3 : mi ≤ 1000000) (h4 : gr ≤ 3) : bOK b (c + 1) (up2 (up2 (up2 (up2 (up2 (up2 (up2 ν (22 + ν 0 6) 0 kd) (22 + ν 0 6) 1 v) (22 + ν 0 6) 2 cs) (22 + ν 0 6) 3 mi) (22 + ν 0 6) 4 gr) (22 + ν 0 6) 5 9) 0 6 (ν 0 6 + 1)) := by
  obtain ⟨hW, e5, e6, e7, hz⟩ := h
  rw [e6, show up2 ν (22 + c) 0 kd = va_up ν (22 + c) (va_up (ν (22 + c)) 0 kd) from rfl, va_up2, va_up2, va_up2, va_up2, va_up2]
  have hv : kd ≤ 3 ∧ v ≤ 100000 ∧ (kd = 0 → v ≤ 100) := by unfold vk at h1; omega
  have w1 : WD (va_up ν (22 + c) (va_up (va_up (va_up (va_up (va_up (va_up (ν (22 + c)) 0 kd) 1 v) 2 cs) 3 mi) 4 gr) 5 9)) := hW.upC (cOK_k hc (by
    simp [va_up]
    exact ⟨hv.1, hv.2.1, hv.2.2, h2, h3, h4⟩))
  have ne0 : (0 : Nat) ≠ 22 + c := by omega
  have ne4 : (4 : Nat) ≠ 22 + c := by omega
  have := hW.na; have := hW.nc; have := hW.no; have := hW.fe; have := hW.li
  refine ⟨w1.upD ?_, ?_, ?_, ?_, fun i hi => ?_⟩
  · rw [va_up_ne _ _ ne0]
    simp only [va_up_self, va_up_ne _ _ (show (5 : Nat) ≠ 6 by decide), va_up_ne _ _ (show (7 : Nat) ≠ 6 by decide), va_up_ne _ _ (show (8 : Nat) ≠ 6 by decide), va_up_ne _ _ (show (9 : Nat) ≠ 6 by decide)]
    exact ⟨by omega, by omega, by omega, by omega, by omega⟩
  · rw [up2_ne2 (by decide), va_up_ne _ _ ne0, e5]
  · rw [up2_at]
  · rw [up2_ne2 (by decide), va_up_ne _ _ ne0, e7]
  · rw [up2_ne (by decide), va_up_ne _ _ ne4]; exact hz i hi
/-! the frame of build and of the law -/
theorem hasX.calling {b : Nat} : ∀ (U : State) (g : JFrame) (mk : MethodId) (a : Array Value), hasX b U → hasX b (U.calling g mk a) := fun U g mk a ⟨L, xs, h1, h2, h3⟩ => ⟨L, xs, h1, h2, va_X.moved (u := U) (U := U.calling g mk a) (Vm.Alike.refl U.vm) h3⟩
theorem hasX.go {b : Nat} {s : State} {G : dG} {H : Heap} {locs : List Loc} (h : hasX b s) (hb : b < G.2.2) (hS : pS G s.heap H locs) : ∀ U : State, U.heap = H → s.WarmedH U.vm → hasX b U := fun U hU hW => by
  obtain ⟨L, xs, h1, h2, h3⟩ := h
  subst hU
  have h4 : va_X b L xs s U.heap := h3.kept (hS.2.1 b h2 (by show ¬ G.2.2 ≤ b; omega))
  exact ⟨L, xs, h1, Nat.lt_of_lt_of_le h2 hS.1, va_X.moved hW.alike h4⟩
end
section
/-! ===== the law's build ===== -/
abbrev bWS (G : dG) (A B : Nat) (f g : Nat → Nat) : va_W := [(A, aI G 30 f), (B, aI G 48 g)]
abbrev bPc (G : dG) (b A B : Nat) (f g : Nat → Nat) : Array Value → State → Prop := va_Pc [.ref (ra G 0), .ref b, .int (nI 0), .int (nI 5), .int (nI 5), .ref A, .ref B] (fun U => xM G nu0 (bWS G A B f g) U.heap ∧ dK G U ∧ hasX b U ∧ b < G.2.2)
abbrev cntA (many all : Nat) : Nat → Nat := va_up (va_up (fun _ => 0) 0 many) 1 all
abbrev bQ (G : dG) : Array Value → State → Outcome → State → Prop := va_Qr (fun u : Mm × Nat × Nat => 1 ≤ u.2.1 ∧ u.2.1 ≤ 5 ∧ u.2.2 ≤ 5 ∧ bOK u.2.1 u.2.2 u.1) (fun u a t => xM G u.1 [(a, aI G 2 (cntA u.2.1 u.2.2))] t.heap) (pA G)
theorem xM.third {G : dG} {ν : Mm} {x y z : Nat × va_E} {H : Heap} (h : xM G ν [x, y, z] H) : xM G ν [z] H := by
  obtain ⟨h1, h2, h3, h4, h5⟩ := h
  refine ⟨h1, h2.sub [2] rfl, h3.sub [2] rfl rfl, fun k q hk => h4 2 q ?_, h5⟩
  have hk0 : k = 0 := by have := (List.getElem?_eq_some_iff.mp hk).1; simp at this; omega
  subst hk0; exact hk
theorem bOK.many_le {m c : Nat} {ν : Mm} (h : bOK m c ν) : ν 0 5 = m ∧ ν 0 6 = c := ⟨h.2.1, h.2.2.1⟩
set_option maxHeartbeats 8000000 in
set_option maxRecDepth 100000 in
theorem b_L_build {l : Launch} {G : dG} {b A B : Nat} {f0 g0 : Nat → Nat} (p : Program) (e : Env) (s : State) (m : MethodId) (args : Array Value) (below : List Frame) (meth : Method) (c : Code) (ls : Array Slot) (X : dC p s m args c cL_build 12 RL G) (hM : xM G nu0 (bWS G A B f0 g0) s.heap) (hX : hasX b s) (hb : b < G.2.2) (hret : meth.sig.returnType = some (.array .int)) (hlk : meth.locks = false) (hl : lv_has ls 12 [(0, .ref (ra G 0)), (1, .ref b), (2, .int (nI 0)), (3, .int (nI 5)), (4, .int (nI 5)), (5, .ref A), (6, .ref B)]) : W p l e (rmC 3 1 2) s m args below meth c s.heap [] 0 0 (MQ below (bQ G) args s 1 2 (pA G)) (F0 m 0 ls []) := by
  have hS : pS G s.heap s.heap [] := va_S.rf

  have T480 : ∀ (many all : Nat) (ν : Mm) (f g : Nat → Nat), 1 ≤ many → many ≤ 5 → all ≤ 5 → bOK many all ν → ∀ (ls : Array Slot) (H : Heap) (locs : List Loc), xM G ν (bWS G A B f g) H → pS G s.heap H locs → lv_has ls 12 [(7, .int (nI many)), (8, .int (nI all))] → W p l e (rmC 3 1 2) s m args below meth c H locs 0 0 (MQ below (bQ G) args s 1 2 (pA G)) (F0 m 480 ls []) := by
    intro many all ν f g hm1 hm5 ha5 hB ls H locs hM hS hl
    refine tn_ic (v := 2) X dL_build_480 (by decide) ?_
    refine x_newI (ws' := fun a => [(A, aI G 30 f), (B, aI G 48 g), (a, aI G 2 (fun _ => 0))]) X hM hS (by decide) (Nat.le_of_ble_eq_true rfl) (Nat.le_of_ble_eq_true rfl) (fun _ => rfl) dL_build_481 (fun a H hM hS => ?_)
    refine lv_dup X.1 X.2.1 dL_build_483 rfl ?_
    refine tn_ic (v := 0) X dL_build_484 (by decide) ?_
    refine lv_iload X.1 X.2.1 dL_build_485 (lv_at hl 0 rfl) ?_
    refine x_iast (q := 2) X hM hS rfl (by omega) (by decide) rfl dL_build_487 (fun H locs hM hS => ?_)
    replace hM : xM G ν [(A, aI G 30 f), (B, aI G 48 g), (a, aI G 2 (va_up (fun _ => 0) 0 many))] H := hM
    refine lv_dup X.1 X.2.1 dL_build_488 rfl ?_
    refine tn_ic (v := 1) X dL_build_489 (by decide) ?_
    refine lv_iload X.1 X.2.1 dL_build_490 (lv_at hl 1 rfl) ?_
    refine x_iast (q := 2) X hM hS rfl (by omega) (by decide) rfl dL_build_492 (fun H locs hM hS => ?_)
    replace hM : xM G ν [(A, aI G 30 f), (B, aI G 48 g), (a, aI G 2 (cntA many all))] H := hM
    exact W.aret X.1 X.2.1 hret (Or.inr ⟨_, rfl⟩) (Or.inr ⟨_, rfl⟩) (fun t ht hW => ⟨⟨(ν, many, all), a, rfl, ⟨hm1, hm5, ha5, hB⟩, by show xM G ν _ t.heap; rw [ht]; exact hM.third⟩, hS.F ht⟩) hS.2.2 dL_build_493 hlk
  have L2 : ∀ (k c1 many all : Nat) (ν : Mm) (f g : Nat → Nat), c1 + k = all → all ≤ 5 → 1 ≤ many → many ≤ 5 → bOK many c1 ν → ∀ (ls : Array Slot) (H : Heap) (locs : List Loc), xM G ν (bWS G A B f g) H → pS G s.heap H locs → lv_has ls 12 [(9, .int (nI c1)), (8, .int (nI all)), (0, .ref (ra G 0)), (1, .ref b), (2, .int (nI 0)), (4, .int (nI 5)), (5, .ref A), (6, .ref B), (7, .int (nI many))] → W p l e (rmC 3 1 2) s m args below meth c H locs 0 0 (MQ below (bQ G) args s 1 2 (pA G)) (F0 m 192 ls []) := by
    intro k
    induction k with
    | zero =>
      intro c1 many all ν f g hk ha5 hm1 hm5 hB ls H locs hM hS hl
      refine lv_iload X.1 X.2.1 dL_build_192 (lv_at hl 0 rfl) ?_
      refine lv_iload X.1 X.2.1 dL_build_194 (lv_at hl 1 rfl) ?_
      refine tn_ge (tgt := 480) X dL_build_196 (by decide) (by omega) (by omega) (fun h196 => ?_) (fun h196 => ?_)
      · exact T480 many all ν f g hm1 hm5 ha5 (by rw [show all = c1 by omega]; exact hB) ls H locs hM hS (lv_sub hl [8, 1] rfl)
      · exfalso; omega
    | succ k ih =>
      intro c1 many all ν f g hk ha5 hm1 hm5 hB ls H locs hM hS hl
      have K421 : ∀ (w : Int32) (g : Nat → Nat), vk (g (6 * c1)) (g (6 * c1 + 1)) → (1 ≤ g (6 * c1 + 2) ∧ g (6 * c1 + 2) ≤ 255) → g (6 * c1 + 3) ≤ 900 → g (6 * c1 + 4) ≤ 3 → ∀ (ls : Array Slot) (H : Heap) (locs : List Loc), xM G ν (bWS G A B f g) H → pS G s.heap H locs → lv_has ls 12 [(11, .int (nI (6 * c1))), (10, .int w), (9, .int (nI c1)), (8, .int (nI all)), (0, .ref (ra G 0)), (1, .ref b), (2, .int (nI 0)), (4, .int (nI 5)), (5, .ref A), (6, .ref B), (7, .int (nI many))] → W p l e (rmC 3 1 2) s m args below meth c H locs 0 0 (MQ below (bQ G) args s 1 2 (pA G)) (F0 m 421 ls []) := by
        intro w g hf0 hf1 hf2 hf3 ls H locs hM hS hl
        refine lv_aload X.1 X.2.1 dL_build_421 (lv_at hl 9 rfl) ?_
        refine lv_iload X.1 X.2.1 dL_build_423 (lv_at hl 0 rfl) ?_
        refine tn_ic (v := 5) X dL_build_425 (by decide) ?_
        refine tn_add X dL_build_426 ?_
        refine tn_bi (v := 9) X dL_build_427 (by decide) ?_
        refine x_iast (q := 1) X hM hS rfl (by omega) (by decide) rfl dL_build_429 (fun H locs hM hS => ?_)
        replace hM : xM G _ (bWS G A B _ _) H := hM
        refine lv_aload_n X.1 X.2.1 dL_build_430 rfl (lv_at hl 4 rfl) ?_
        refine lv_aload X.1 X.2.1 dL_build_431 (lv_at hl 9 rfl) ?_
        refine lv_iload X.1 X.2.1 dL_build_433 (lv_at hl 0 rfl) ?_
        refine x_iald (q := 1) X hM rfl (by omega) (by decide) dL_build_435 ?_
        refine tn_as (show _ = g (6 * c1) from va_up_ne _ _ (show 6 * c1 ≠ 6 * c1 + 5 by omega)) ?_
        refine lv_aload X.1 X.2.1 dL_build_436 (lv_at hl 9 rfl) ?_
        refine lv_iload X.1 X.2.1 dL_build_438 (lv_at hl 0 rfl) ?_
        refine tn_ic (v := 1) X dL_build_440 (by decide) ?_
        refine tn_add X dL_build_441 ?_
        refine x_iald (q := 1) X hM rfl (by omega) (by decide) dL_build_442 ?_
        refine tn_as (show _ = g (6 * c1 + 1) from va_up_ne _ _ (show 6 * c1 + 1 ≠ 6 * c1 + 5 by omega)) ?_
        refine lv_aload X.1 X.2.1 dL_build_443 (lv_at hl 9 rfl) ?_
        refine lv_iload X.1 X.2.1 dL_build_445 (lv_at hl 0 rfl) ?_
        refine tn_ic (v := 2) X dL_build_447 (by decide) ?_
        refine tn_add X dL_build_448 ?_
        refine x_iald (q := 1) X hM rfl (by omega) (by decide) dL_build_449 ?_
        refine tn_as (show _ = g (6 * c1 + 2) from va_up_ne _ _ (show 6 * c1 + 2 ≠ 6 * c1 + 5 by omega)) ?_
        refine lv_aload X.1 X.2.1 dL_build_450 (lv_at hl 9 rfl) ?_
        refine lv_iload X.1 X.2.1 dL_build_452 (lv_at hl 0 rfl) ?_
        refine tn_ic (v := 3) X dL_build_454 (by decide) ?_
        refine tn_add X dL_build_455 ?_
        refine x_iald (q := 1) X hM rfl (by omega) (by decide) dL_build_456 ?_
        refine tn_as (show _ = g (6 * c1 + 3) from va_up_ne _ _ (show 6 * c1 + 3 ≠ 6 * c1 + 5 by omega)) ?_
        refine lv_aload X.1 X.2.1 dL_build_457 (lv_at hl 9 rfl) ?_
        refine lv_iload X.1 X.2.1 dL_build_459 (lv_at hl 0 rfl) ?_
        refine tn_ic (v := 4) X dL_build_461 (by decide) ?_
        refine tn_add X dL_build_462 ?_
        refine x_iald (q := 1) X hM rfl (by omega) (by decide) dL_build_463 ?_
        refine tn_as (show _ = g (6 * c1 + 4) from va_up_ne _ _ (show 6 * c1 + 4 ≠ 6 * c1 + 5 by omega)) ?_
        refine kLD (As := [_, _, _, _, _]) X hM hS hl.1 (c_X5_addCoupon hB.1 hf0 hf1.1 hf1.2 (by omega) hf3 (by have := hB.2.2.1; omega)) rfl kl_L_27 mf_X5_addCoupon ⟨Nat.le_of_ble_eq_true rfl, Nat.le_of_ble_eq_true rfl⟩ ⟨Nat.zero_le _, Nat.zero_le _⟩ rfl (Nat.le_of_ble_eq_true rfl) dL_build_464 (fun r464 ν464 H locs hp464 hM hS => ?_)
        obtain ⟨e464, rfl⟩ := hp464
        refine tn_as (show r464 = c1 from e464.trans hB.2.2.1) ?_
        refine lv_iload X.1 X.2.1 dL_build_467 (lv_at hl 2 rfl) ?_
        refine tn_eq (tgt := 474) X dL_build_469 (by decide) (by omega) (by omega) (fun h469 => ?_) (fun h469 => ?_)
        · refine tn_inc (k := 2) (w := 1) X dL_build_474 hl rfl (by decide) (by decide) rfl (fun ls hl => ?_)
          replace hl : lv_has ls 12 [(9, _), (11, _), (10, _), (8, _), (0, _), (1, _), (2, _), (4, _), (5, _), (6, _), (7, _)] := hl
          refine lv_goto (tgt := 192) X.1 X.2.1 dL_build_477 (by decide) ?_
          exact ih (c1 + 1) many all _ f _ (by omega) ha5 hm1 hm5 (hB.cou (by omega) hf0 hf1.2 (by omega) hf3) ls H locs hM hS (lv_sub hl [0, 3, 4, 5, 6, 7, 8, 9, 10] rfl)
        · exfalso; omega
      have K387 : ∀ (w : Int32) (g : Nat → Nat), vk (g (6 * c1)) (g (6 * c1 + 1)) → (1 ≤ g (6 * c1 + 2) ∧ g (6 * c1 + 2) ≤ 255) → g (6 * c1 + 3) ≤ 900 → ∀ (ls : Array Slot) (H : Heap) (locs : List Loc), xM G ν (bWS G A B f g) H → pS G s.heap H locs → lv_has ls 12 [(11, .int (nI (6 * c1))), (10, .int w), (9, .int (nI c1)), (8, .int (nI all)), (0, .ref (ra G 0)), (1, .ref b), (2, .int (nI 0)), (4, .int (nI 5)), (5, .ref A), (6, .ref B), (7, .int (nI many))] → W p l e (rmC 3 1 2) s m args below meth c H locs 0 0 (MQ below (bQ G) args s 1 2 (pA G)) (F0 m 387 ls []) := by
        intro w g hf0 hf1 hf2 ls H locs hM hS hl
        refine lv_aload X.1 X.2.1 dL_build_387 (lv_at hl 9 rfl) ?_
        refine lv_iload X.1 X.2.1 dL_build_389 (lv_at hl 0 rfl) ?_
        refine tn_ic (v := 4) X dL_build_391 (by decide) ?_
        refine tn_add X dL_build_392 ?_
        refine lv_iload X.1 X.2.1 dL_build_393 (lv_at hl 1 rfl) ?_
        refine tn_bi (v := 11) X dL_build_395 (by decide) ?_
        refine tn_sar X dL_build_397 (fun z397 => ?_)
        refine tn_ic (v := 3) X dL_build_398 (by decide) ?_
        refine kLS (As := [_, _]) (fun _ _ _ _ h => h) (fun _ _ _ => trivial) X hM hS hl.1 (c_L_below (n := _) (by omega) (by omega)) kl_L_15 mf_L_below ⟨Nat.le_of_ble_eq_true rfl, Nat.le_of_ble_eq_true rfl⟩ ⟨Nat.zero_le _, Nat.zero_le _⟩ rfl (Nat.le_of_ble_eq_true rfl) dL_build_399 (fun z399 H locs hz399 hM hS _ _ => ?_)
        obtain ⟨q399, hq399, rfl⟩ := hz399
        refine tn_ne0 (tgt := 419) X dL_build_402 (by decide) (by omega) (fun h402 => ?_) (fun h402 => ?_)
        · refine tn_ic (v := 0) X dL_build_419 (by decide) ?_
          refine x_iast (q := 1) X hM hS rfl (by omega) (by decide) rfl dL_build_420 (fun H locs hM hS => ?_)
          replace hM : xM G _ (bWS G A B _ _) H := hM
          exact K421 _ _ (by rw [va_up_ne _ _ (show 6 * c1 ≠ 6 * c1 + 4 by omega), va_up_ne _ _ (show 6 * c1 + 1 ≠ 6 * c1 + 4 by omega)]; exact hf0) (by rw [va_up_ne _ _ (show 6 * c1 + 2 ≠ 6 * c1 + 4 by omega)]; exact hf1) (by rw [va_up_ne _ _ (show 6 * c1 + 3 ≠ 6 * c1 + 4 by omega)]; exact hf2) (by rw [va_up_self]; omega) ls H locs hM hS (lv_sub hl [0, 1, 2, 3, 4, 5, 6, 7, 8, 9, 10] rfl)
        · refine tn_ic (v := 1) X dL_build_405 (by decide) ?_
          refine lv_iload X.1 X.2.1 dL_build_406 (lv_at hl 1 rfl) ?_
          refine tn_bi (v := 12) X dL_build_408 (by decide) ?_
          refine tn_sar X dL_build_410 (fun z410 => ?_)
          refine tn_ic (v := 3) X dL_build_411 (by decide) ?_
          refine kLS (As := [_, _]) (fun _ _ _ _ h => h) (fun _ _ _ => trivial) X hM hS hl.1 (c_L_below (n := _) (by omega) (by omega)) kl_L_15 mf_L_below ⟨Nat.le_of_ble_eq_true rfl, Nat.le_of_ble_eq_true rfl⟩ ⟨Nat.zero_le _, Nat.zero_le _⟩ rfl (Nat.le_of_ble_eq_true rfl) dL_build_412 (fun z412 H locs hz412 hM hS _ _ => ?_)
          obtain ⟨q412, hq412, rfl⟩ := hz412
          refine tn_add X dL_build_415 ?_
          refine lv_goto (tgt := 420) X.1 X.2.1 dL_build_416 (by decide) ?_
          refine x_iast (q := 1) X hM hS rfl (by omega) (by decide) rfl dL_build_420 (fun H locs hM hS => ?_)
          replace hM : xM G _ (bWS G A B _ _) H := hM
          exact K421 _ _ (by rw [va_up_ne _ _ (show 6 * c1 ≠ 6 * c1 + 4 by omega), va_up_ne _ _ (show 6 * c1 + 1 ≠ 6 * c1 + 4 by omega)]; exact hf0) (by rw [va_up_ne _ _ (show 6 * c1 + 2 ≠ 6 * c1 + 4 by omega)]; exact hf1) (by rw [va_up_ne _ _ (show 6 * c1 + 3 ≠ 6 * c1 + 4 by omega)]; exact hf2) (by rw [va_up_self]; omega) ls H locs hM hS (lv_sub hl [0, 1, 2, 3, 4, 5, 6, 7, 8, 9, 10] rfl)
      have K353 : ∀ (w : Int32) (g : Nat → Nat), vk (g (6 * c1)) (g (6 * c1 + 1)) → (1 ≤ g (6 * c1 + 2) ∧ g (6 * c1 + 2) ≤ 255) → ∀ (ls : Array Slot) (H : Heap) (locs : List Loc), xM G ν (bWS G A B f g) H → pS G s.heap H locs → lv_has ls 12 [(11, .int (nI (6 * c1))), (10, .int w), (9, .int (nI c1)), (8, .int (nI all)), (0, .ref (ra G 0)), (1, .ref b), (2, .int (nI 0)), (4, .int (nI 5)), (5, .ref A), (6, .ref B), (7, .int (nI many))] → W p l e (rmC 3 1 2) s m args below meth c H locs 0 0 (MQ below (bQ G) args s 1 2 (pA G)) (F0 m 353 ls []) := by
        intro w g hf0 hf1 ls H locs hM hS hl
        refine lv_aload X.1 X.2.1 dL_build_353 (lv_at hl 9 rfl) ?_
        refine lv_iload X.1 X.2.1 dL_build_355 (lv_at hl 0 rfl) ?_
        refine tn_ic (v := 3) X dL_build_357 (by decide) ?_
        refine tn_add X dL_build_358 ?_
        refine lv_iload X.1 X.2.1 dL_build_359 (lv_at hl 1 rfl) ?_
        refine tn_bi (v := 8) X dL_build_361 (by decide) ?_
        refine tn_sar X dL_build_363 (fun z363 => ?_)
        refine tn_ic (v := 2) X dL_build_364 (by decide) ?_
        refine kLS (As := [_, _]) (fun _ _ _ _ h => h) (fun _ _ _ => trivial) X hM hS hl.1 (c_L_below (n := _) (by omega) (by omega)) kl_L_15 mf_L_below ⟨Nat.le_of_ble_eq_true rfl, Nat.le_of_ble_eq_true rfl⟩ ⟨Nat.zero_le _, Nat.zero_le _⟩ rfl (Nat.le_of_ble_eq_true rfl) dL_build_365 (fun z365 H locs hz365 hM hS _ _ => ?_)
        obtain ⟨q365, hq365, rfl⟩ := hz365
        refine tn_ne0 (tgt := 375) X dL_build_368 (by decide) (by omega) (fun h368 => ?_) (fun h368 => ?_)
        · refine lv_iload X.1 X.2.1 dL_build_375 (lv_at hl 1 rfl) ?_
          refine tn_bi (v := 9) X dL_build_377 (by decide) ?_
          refine tn_sar X dL_build_379 (fun z379 => ?_)
          refine tn_si (v := 900) X dL_build_380 (by decide) ?_
          refine kLS (As := [_, _]) (fun _ _ _ _ h => h) (fun _ _ _ => trivial) X hM hS hl.1 (c_L_below (n := _) (by omega) (by omega)) kl_L_15 mf_L_below ⟨Nat.le_of_ble_eq_true rfl, Nat.le_of_ble_eq_true rfl⟩ ⟨Nat.zero_le _, Nat.zero_le _⟩ rfl (Nat.le_of_ble_eq_true rfl) dL_build_383 (fun z383 H locs hz383 hM hS _ _ => ?_)
          obtain ⟨q383, hq383, rfl⟩ := hz383
          refine x_iast (q := 1) X hM hS rfl (by omega) (by decide) rfl dL_build_386 (fun H locs hM hS => ?_)
          replace hM : xM G _ (bWS G A B _ _) H := hM
          exact K387 _ _ (by rw [va_up_ne _ _ (show 6 * c1 ≠ 6 * c1 + 3 by omega), va_up_ne _ _ (show 6 * c1 + 1 ≠ 6 * c1 + 3 by omega)]; exact hf0) (by rw [va_up_ne _ _ (show 6 * c1 + 2 ≠ 6 * c1 + 3 by omega)]; exact hf1) (by rw [va_up_self]; omega) ls H locs hM hS (lv_sub hl [0, 1, 2, 3, 4, 5, 6, 7, 8, 9, 10] rfl)
        · refine tn_ic (v := 0) X dL_build_371 (by decide) ?_
          refine lv_goto (tgt := 386) X.1 X.2.1 dL_build_372 (by decide) ?_
          refine x_iast (q := 1) X hM hS rfl (by omega) (by decide) rfl dL_build_386 (fun H locs hM hS => ?_)
          replace hM : xM G _ (bWS G A B _ _) H := hM
          exact K387 _ _ (by rw [va_up_ne _ _ (show 6 * c1 ≠ 6 * c1 + 3 by omega), va_up_ne _ _ (show 6 * c1 + 1 ≠ 6 * c1 + 3 by omega)]; exact hf0) (by rw [va_up_ne _ _ (show 6 * c1 + 2 ≠ 6 * c1 + 3 by omega)]; exact hf1) (by rw [va_up_self]; omega) ls H locs hM hS (lv_sub hl [0, 1, 2, 3, 4, 5, 6, 7, 8, 9, 10] rfl)
      have K317 : ∀ (w : Int32) (g : Nat → Nat), vk (g (6 * c1)) (g (6 * c1 + 1)) → ∀ (ls : Array Slot) (H : Heap) (locs : List Loc), xM G ν (bWS G A B f g) H → pS G s.heap H locs → lv_has ls 12 [(11, .int (nI (6 * c1))), (10, .int w), (9, .int (nI c1)), (8, .int (nI all)), (0, .ref (ra G 0)), (1, .ref b), (2, .int (nI 0)), (4, .int (nI 5)), (5, .ref A), (6, .ref B), (7, .int (nI many))] → W p l e (rmC 3 1 2) s m args below meth c H locs 0 0 (MQ below (bQ G) args s 1 2 (pA G)) (F0 m 317 ls []) := by
        intro w g hf0 ls H locs hM hS hl
        refine lv_aload X.1 X.2.1 dL_build_317 (lv_at hl 9 rfl) ?_
        refine lv_iload X.1 X.2.1 dL_build_319 (lv_at hl 0 rfl) ?_
        refine tn_ic (v := 2) X dL_build_321 (by decide) ?_
        refine tn_add X dL_build_322 ?_
        refine lv_iload X.1 X.2.1 dL_build_323 (lv_at hl 1 rfl) ?_
        refine tn_ic (v := 5) X dL_build_325 (by decide) ?_
        refine tn_sar X dL_build_326 (fun z326 => ?_)
        refine tn_ic (v := 2) X dL_build_327 (by decide) ?_
        refine kLS (As := [_, _]) (fun _ _ _ _ h => h) (fun _ _ _ => trivial) X hM hS hl.1 (c_L_below (n := _) (by omega) (by omega)) kl_L_15 mf_L_below ⟨Nat.le_of_ble_eq_true rfl, Nat.le_of_ble_eq_true rfl⟩ ⟨Nat.zero_le _, Nat.zero_le _⟩ rfl (Nat.le_of_ble_eq_true rfl) dL_build_328 (fun z328 H locs hz328 hM hS _ _ => ?_)
        obtain ⟨q328, hq328, rfl⟩ := hz328
        refine tn_ne0 (tgt := 340) X dL_build_331 (by decide) (by omega) (fun h331 => ?_) (fun h331 => ?_)
        · refine tn_ic (v := 1) X dL_build_340 (by decide) ?_
          refine lv_iload X.1 X.2.1 dL_build_341 (lv_at hl 1 rfl) ?_
          refine tn_bi (v := 6) X dL_build_343 (by decide) ?_
          refine tn_sar X dL_build_345 (fun z345 => ?_)
          refine tn_bi (v := 7) X dL_build_346 (by decide) ?_
          refine kLS (As := [_, _]) (fun _ _ _ _ h => h) (fun _ _ _ => trivial) X hM hS hl.1 (c_L_below (n := _) (by omega) (by omega)) kl_L_15 mf_L_below ⟨Nat.le_of_ble_eq_true rfl, Nat.le_of_ble_eq_true rfl⟩ ⟨Nat.zero_le _, Nat.zero_le _⟩ rfl (Nat.le_of_ble_eq_true rfl) dL_build_348 (fun z348 H locs hz348 hM hS _ _ => ?_)
          obtain ⟨q348, hq348, rfl⟩ := hz348
          refine tn_add X dL_build_351 ?_
          refine x_iast (q := 1) X hM hS rfl (by omega) (by decide) rfl dL_build_352 (fun H locs hM hS => ?_)
          replace hM : xM G _ (bWS G A B _ _) H := hM
          exact K353 _ _ (by rw [va_up_ne _ _ (show 6 * c1 ≠ 6 * c1 + 2 by omega), va_up_ne _ _ (show 6 * c1 + 1 ≠ 6 * c1 + 2 by omega)]; exact hf0) (by rw [va_up_self]; omega) ls H locs hM hS (lv_sub hl [0, 1, 2, 3, 4, 5, 6, 7, 8, 9, 10] rfl)
        · refine tn_si (v := 255) X dL_build_334 (by decide) ?_
          refine lv_goto (tgt := 352) X.1 X.2.1 dL_build_337 (by decide) ?_
          refine x_iast (q := 1) X hM hS rfl (by omega) (by decide) rfl dL_build_352 (fun H locs hM hS => ?_)
          replace hM : xM G _ (bWS G A B _ _) H := hM
          exact K353 _ _ (by rw [va_up_ne _ _ (show 6 * c1 ≠ 6 * c1 + 2 by omega), va_up_ne _ _ (show 6 * c1 + 1 ≠ 6 * c1 + 2 by omega)]; exact hf0) (by rw [va_up_self]; omega) ls H locs hM hS (lv_sub hl [0, 1, 2, 3, 4, 5, 6, 7, 8, 9, 10] rfl)
      refine lv_iload X.1 X.2.1 dL_build_192 (lv_at hl 0 rfl) ?_
      refine lv_iload X.1 X.2.1 dL_build_194 (lv_at hl 1 rfl) ?_
      refine tn_ge (tgt := 480) X dL_build_196 (by decide) (by omega) (by omega) (fun h196 => ?_) (fun h196 => ?_)
      · exfalso; omega
      · refine lv_aload_n X.1 X.2.1 dL_build_199 rfl (lv_at hl 3 rfl) ?_
        refine lv_iload_n X.1 X.2.1 dL_build_200 rfl (lv_at hl 4 rfl) ?_
        refine tn_ic (v := 4) X dL_build_201 (by decide) ?_
        refine tn_add X dL_build_202 ?_
        refine lv_iload X.1 X.2.1 dL_build_203 (lv_at hl 0 rfl) ?_
        refine tn_ic (v := 4) X dL_build_205 (by decide) ?_
        refine tn_rem X dL_build_206 (by omega) (by omega) (by omega) ?_
        refine tn_add X dL_build_207 ?_
        refine kLS (As := [_, _]) hasX.calling (hX.go hb hS) X hM hS hl.1 (c_L_cell (k := _) (by omega)) kl_L_9 mf_L_cell ⟨Nat.le_of_ble_eq_true rfl, Nat.le_of_ble_eq_true rfl⟩ ⟨Nat.zero_le _, Nat.zero_le _⟩ rfl (Nat.le_of_ble_eq_true rfl) dL_build_208 (fun z208 H locs _ hM hS _ _ => ?_)
        refine lv_iload X.1 X.2.1 dL_build_211 (lv_at hl 0 rfl) ?_
        refine tn_ic (v := 4) X dL_build_213 (by decide) ?_
        refine tn_div X dL_build_214 (by omega) (by omega) (by omega) ?_
        refine tn_bi (v := 10) X dL_build_215 (by decide) ?_
        refine tn_mul X dL_build_217 ?_
        refine tn_sar X dL_build_218 (fun z218 => ?_)
        refine lv_istore X.1 X.2.1 dL_build_219 hl (by decide) rfl (fun ls hl => ?_)
        replace hl : lv_has ls 12 [(10, _), (9, _), (8, _), (0, _), (1, _), (2, _), (4, _), (5, _), (6, _), (7, _)] := hl
        refine tn_bi (v := 6) X dL_build_221 (by decide) ?_
        refine lv_iload X.1 X.2.1 dL_build_223 (lv_at hl 1 rfl) ?_
        refine tn_mul X dL_build_225 ?_
        refine lv_istore X.1 X.2.1 dL_build_226 hl (by decide) rfl (fun ls hl => ?_)
        replace hl : lv_has ls 12 [(11, _), (10, _), (9, _), (8, _), (0, _), (1, _), (2, _), (4, _), (5, _), (6, _), (7, _)] := hl
        refine lv_aload X.1 X.2.1 dL_build_228 (lv_at hl 9 rfl) ?_
        refine lv_iload X.1 X.2.1 dL_build_230 (lv_at hl 0 rfl) ?_
        refine lv_iload X.1 X.2.1 dL_build_232 (lv_at hl 1 rfl) ?_
        refine tn_ic (v := 5) X dL_build_234 (by decide) ?_
        refine kLS (As := [_, _]) (fun _ _ _ _ h => h) (fun _ _ _ => trivial) X hM hS hl.1 (c_L_below (n := _) (by omega) (by omega)) kl_L_15 mf_L_below ⟨Nat.le_of_ble_eq_true rfl, Nat.le_of_ble_eq_true rfl⟩ ⟨Nat.zero_le _, Nat.zero_le _⟩ rfl (Nat.le_of_ble_eq_true rfl) dL_build_235 (fun z235 H locs hz235 hM hS _ _ => ?_)
        obtain ⟨q235, hq235, rfl⟩ := hz235
        refine tn_ic (v := 4) X dL_build_238 (by decide) ?_
        refine tn_rem X dL_build_239 (by omega) (by omega) (by omega) ?_
        refine x_iast (q := 1) X hM hS rfl (by omega) (by decide) rfl dL_build_240 (fun H locs hM hS => ?_)
        replace hM : xM G _ (bWS G A B _ _) H := hM
        refine lv_aload X.1 X.2.1 dL_build_241 (lv_at hl 9 rfl) ?_
        refine lv_iload X.1 X.2.1 dL_build_243 (lv_at hl 0 rfl) ?_
        refine tn_ic (v := 1) X dL_build_245 (by decide) ?_
        refine tn_add X dL_build_246 ?_
        refine lv_aload X.1 X.2.1 dL_build_247 (lv_at hl 9 rfl) ?_
        refine lv_iload X.1 X.2.1 dL_build_249 (lv_at hl 0 rfl) ?_
        refine x_iald (q := 1) X hM rfl (by omega) (by decide) dL_build_251 ?_
        refine tn_as (show _ = q235 % 4 from va_up_self _ _ _) ?_
        refine tn_ne0 (tgt := 269) X dL_build_252 (by decide) (by omega) (fun h252 => ?_) (fun h252 => ?_)
        · refine lv_aload X.1 X.2.1 dL_build_269 (lv_at hl 9 rfl) ?_
          refine lv_iload X.1 X.2.1 dL_build_271 (lv_at hl 0 rfl) ?_
          refine x_iald (q := 1) X hM rfl (by omega) (by decide) dL_build_273 ?_
          refine tn_as (show _ = q235 % 4 from va_up_self _ _ _) ?_
          refine tn_ic (v := 1) X dL_build_274 (by decide) ?_
          refine tn_ne (tgt := 293) X dL_build_275 (by decide) (by omega) (by omega) (fun h275 => ?_) (fun h275 => ?_)
          · refine lv_aload X.1 X.2.1 dL_build_293 (lv_at hl 9 rfl) ?_
            refine lv_iload X.1 X.2.1 dL_build_295 (lv_at hl 0 rfl) ?_
            refine x_iald (q := 1) X hM rfl (by omega) (by decide) dL_build_297 ?_
            refine tn_as (show _ = q235 % 4 from va_up_self _ _ _) ?_
            refine tn_ic (v := 2) X dL_build_298 (by decide) ?_
            refine tn_ne (tgt := 315) X dL_build_299 (by decide) (by omega) (by omega) (fun h299 => ?_) (fun h299 => ?_)
            · refine tn_ic (v := 0) X dL_build_315 (by decide) ?_
              refine x_iast (q := 1) X hM hS rfl (by omega) (by decide) rfl dL_build_316 (fun H locs hM hS => ?_)
              replace hM : xM G _ (bWS G A B _ _) H := hM
              exact K317 _ _ (by rw [va_up_ne _ _ (show 6 * c1 ≠ 6 * c1 + 1 by omega), va_up_self, va_up_self]; unfold vk; omega) ls H locs hM hS (lv_sub hl [0, 1, 2, 3, 4, 5, 6, 7, 8, 9, 10] rfl)
            · refine tn_ic (v := 2) X dL_build_302 (by decide) ?_
              refine lv_iload X.1 X.2.1 dL_build_303 (lv_at hl 1 rfl) ?_
              refine tn_ic (v := 3) X dL_build_305 (by decide) ?_
              refine tn_sar X dL_build_306 (fun z306 => ?_)
              refine tn_ic (v := 3) X dL_build_307 (by decide) ?_
              refine kLS (As := [_, _]) (fun _ _ _ _ h => h) (fun _ _ _ => trivial) X hM hS hl.1 (c_L_below (n := _) (by omega) (by omega)) kl_L_15 mf_L_below ⟨Nat.le_of_ble_eq_true rfl, Nat.le_of_ble_eq_true rfl⟩ ⟨Nat.zero_le _, Nat.zero_le _⟩ rfl (Nat.le_of_ble_eq_true rfl) dL_build_308 (fun z308 H locs hz308 hM hS _ _ => ?_)
              obtain ⟨q308, hq308, rfl⟩ := hz308
              refine tn_add X dL_build_311 ?_
              refine lv_goto (tgt := 316) X.1 X.2.1 dL_build_312 (by decide) ?_
              refine x_iast (q := 1) X hM hS rfl (by omega) (by decide) rfl dL_build_316 (fun H locs hM hS => ?_)
              replace hM : xM G _ (bWS G A B _ _) H := hM
              exact K317 _ _ (by rw [va_up_ne _ _ (show 6 * c1 ≠ 6 * c1 + 1 by omega), va_up_self, va_up_self]; unfold vk; omega) ls H locs hM hS (lv_sub hl [0, 1, 2, 3, 4, 5, 6, 7, 8, 9, 10] rfl)
          · refine tn_ic (v := 1) X dL_build_278 (by decide) ?_
            refine lv_iload X.1 X.2.1 dL_build_279 (lv_at hl 1 rfl) ?_
            refine tn_ic (v := 3) X dL_build_281 (by decide) ?_
            refine tn_sar X dL_build_282 (fun z282 => ?_)
            refine tn_si (v := 700) X dL_build_283 (by decide) ?_
            refine kLS (As := [_, _]) (fun _ _ _ _ h => h) (fun _ _ _ => trivial) X hM hS hl.1 (c_L_below (n := _) (by omega) (by omega)) kl_L_15 mf_L_below ⟨Nat.le_of_ble_eq_true rfl, Nat.le_of_ble_eq_true rfl⟩ ⟨Nat.zero_le _, Nat.zero_le _⟩ rfl (Nat.le_of_ble_eq_true rfl) dL_build_286 (fun z286 H locs hz286 hM hS _ _ => ?_)
            obtain ⟨q286, hq286, rfl⟩ := hz286
            refine tn_add X dL_build_289 ?_
            refine lv_goto (tgt := 316) X.1 X.2.1 dL_build_290 (by decide) ?_
            refine x_iast (q := 1) X hM hS rfl (by omega) (by decide) rfl dL_build_316 (fun H locs hM hS => ?_)
            replace hM : xM G _ (bWS G A B _ _) H := hM
            exact K317 _ _ (by rw [va_up_ne _ _ (show 6 * c1 ≠ 6 * c1 + 1 by omega), va_up_self, va_up_self]; unfold vk; omega) ls H locs hM hS (lv_sub hl [0, 1, 2, 3, 4, 5, 6, 7, 8, 9, 10] rfl)
        · refine tn_ic (v := 1) X dL_build_255 (by decide) ?_
          refine lv_iload X.1 X.2.1 dL_build_256 (lv_at hl 1 rfl) ?_
          refine tn_ic (v := 3) X dL_build_258 (by decide) ?_
          refine tn_sar X dL_build_259 (fun z259 => ?_)
          refine tn_bi (v := 60) X dL_build_260 (by decide) ?_
          refine kLS (As := [_, _]) (fun _ _ _ _ h => h) (fun _ _ _ => trivial) X hM hS hl.1 (c_L_below (n := _) (by omega) (by omega)) kl_L_15 mf_L_below ⟨Nat.le_of_ble_eq_true rfl, Nat.le_of_ble_eq_true rfl⟩ ⟨Nat.zero_le _, Nat.zero_le _⟩ rfl (Nat.le_of_ble_eq_true rfl) dL_build_262 (fun z262 H locs hz262 hM hS _ _ => ?_)
          obtain ⟨q262, hq262, rfl⟩ := hz262
          refine tn_add X dL_build_265 ?_
          refine lv_goto (tgt := 316) X.1 X.2.1 dL_build_266 (by decide) ?_
          refine x_iast (q := 1) X hM hS rfl (by omega) (by decide) rfl dL_build_316 (fun H locs hM hS => ?_)
          replace hM : xM G _ (bWS G A B _ _) H := hM
          exact K317 _ _ (by rw [va_up_ne _ _ (show 6 * c1 ≠ 6 * c1 + 1 by omega), va_up_self, va_up_self]; unfold vk; omega) ls H locs hM hS (lv_sub hl [0, 1, 2, 3, 4, 5, 6, 7, 8, 9, 10] rfl)
  have M173 : ∀ (many : Nat) (ν : Mm) (f g : Nat → Nat), 1 ≤ many → many ≤ 5 → bOK many 0 ν → ∀ (ls : Array Slot) (H : Heap) (locs : List Loc), xM G ν (bWS G A B f g) H → pS G s.heap H locs → lv_has ls 12 [(7, .int (nI many)), (0, .ref (ra G 0)), (1, .ref b), (2, .int (nI 0)), (4, .int (nI 5)), (5, .ref A), (6, .ref B)] → W p l e (rmC 3 1 2) s m args below meth c H locs 0 0 (MQ below (bQ G) args s 1 2 (pA G)) (F0 m 173 ls []) := by
    intro many ν f g hm1 hm5 hB ls H locs hM hS hl
    refine lv_aload_n X.1 X.2.1 dL_build_173 rfl (lv_at hl 2 rfl) ?_
    refine lv_iload_n X.1 X.2.1 dL_build_174 rfl (lv_at hl 3 rfl) ?_
    refine kLS (As := [_, _]) hasX.calling (hX.go hb hS) X hM hS hl.1 (c_L_cell (k := _) (by omega)) kl_L_9 mf_L_cell ⟨Nat.le_of_ble_eq_true rfl, Nat.le_of_ble_eq_true rfl⟩ ⟨Nat.zero_le _, Nat.zero_le _⟩ rfl (Nat.le_of_ble_eq_true rfl) dL_build_175 (fun z175 H locs _ hM hS _ _ => ?_)
    refine tn_ic (v := 4) X dL_build_178 (by decide) ?_
    refine tn_sar X dL_build_179 (fun z179 => ?_)
    refine lv_iload X.1 X.2.1 dL_build_180 (lv_at hl 4 rfl) ?_
    refine tn_ic (v := 1) X dL_build_182 (by decide) ?_
    refine tn_add X dL_build_183 ?_
    refine kLS (As := [_, _]) (fun _ _ _ _ h => h) (fun _ _ _ => trivial) X hM hS hl.1 (c_L_below (n := _) (by omega) (by omega)) kl_L_15 mf_L_below ⟨Nat.le_of_ble_eq_true rfl, Nat.le_of_ble_eq_true rfl⟩ ⟨Nat.zero_le _, Nat.zero_le _⟩ rfl (Nat.le_of_ble_eq_true rfl) dL_build_184 (fun z184 H locs hz184 hM hS _ _ => ?_)
    obtain ⟨q184, hq184, rfl⟩ := hz184
    refine lv_istore X.1 X.2.1 dL_build_187 hl (by decide) rfl (fun ls hl => ?_)
    replace hl : lv_has ls 12 [(8, _), (7, _), (0, _), (1, _), (2, _), (4, _), (5, _), (6, _)] := hl
    refine tn_ic (v := 0) X dL_build_189 (by decide) ?_
    refine lv_istore X.1 X.2.1 dL_build_190 hl (by decide) rfl (fun ls hl => ?_)
    replace hl : lv_has ls 12 [(9, _), (8, _), (7, _), (0, _), (1, _), (2, _), (4, _), (5, _), (6, _)] := hl
    exact L2 q184 0 many q184 ν f g (by omega) (by omega) hm1 hm5 hB ls H locs hM hS (lv_sub hl [0, 1, 3, 4, 5, 6, 7, 8, 2] rfl)
  have L1 : ∀ (k a many : Nat) (ν : Mm) (f g : Nat → Nat), a + k = many → 1 ≤ many → many ≤ 5 → bOK a 0 ν → ∀ (ls : Array Slot) (H : Heap) (locs : List Loc), xM G ν (bWS G A B f g) H → pS G s.heap H locs → lv_has ls 12 [(8, .int (nI a)), (7, .int (nI many)), (0, .ref (ra G 0)), (1, .ref b), (2, .int (nI 0)), (4, .int (nI 5)), (5, .ref A), (6, .ref B)] → W p l e (rmC 3 1 2) s m args below meth c H locs 0 0 (MQ below (bQ G) args s 1 2 (pA G)) (F0 m 16 ls []) := by
    intro k
    induction k with
    | zero =>
      intro a many ν f g hk hm1 hm5 hB ls H locs hM hS hl
      refine lv_iload X.1 X.2.1 dL_build_16 (lv_at hl 0 rfl) ?_
      refine lv_iload X.1 X.2.1 dL_build_18 (lv_at hl 1 rfl) ?_
      refine tn_ge (tgt := 173) X dL_build_20 (by decide) (by omega) (by omega) (fun h20 => ?_) (fun h20 => ?_)
      · exact M173 many ν f g hm1 hm5 (by rw [show many = a by omega]; exact hB) ls H locs hM hS (lv_sub hl [1, 2, 3, 4, 5, 6, 7] rfl)
      · exfalso; omega
    | succ k ih =>
      intro a many ν f g hk hm1 hm5 hB ls H locs hM hS hl
      have K87 : ∀ (w : Int32) (f : Nat → Nat), (1 ≤ f (3 * a) ∧ f (3 * a) ≤ 900) → ∀ (ls : Array Slot) (H : Heap) (locs : List Loc), xM G ν (bWS G A B f g) H → pS G s.heap H locs → lv_has ls 12 [(9, .int w), (8, .int (nI a)), (7, .int (nI many)), (0, .ref (ra G 0)), (1, .ref b), (2, .int (nI 0)), (4, .int (nI 5)), (5, .ref A), (6, .ref B)] → W p l e (rmC 3 1 2) s m args below meth c H locs 0 0 (MQ below (bQ G) args s 1 2 (pA G)) (F0 m 87 ls []) := by
        intro w f hf ls H locs hM hS hl
        refine lv_aload X.1 X.2.1 dL_build_87 (lv_at hl 7 rfl) ?_
        refine tn_ic (v := 3) X dL_build_89 (by decide) ?_
        refine lv_iload X.1 X.2.1 dL_build_90 (lv_at hl 1 rfl) ?_
        refine tn_mul X dL_build_92 ?_
        refine tn_ic (v := 1) X dL_build_93 (by decide) ?_
        refine tn_add X dL_build_94 ?_
        refine lv_iload X.1 X.2.1 dL_build_95 (lv_at hl 0 rfl) ?_
        refine tn_ic (v := 5) X dL_build_97 (by decide) ?_
        refine tn_sar X dL_build_98 (fun z98 => ?_)
        refine tn_ic (v := 3) X dL_build_99 (by decide) ?_
        refine kLS (As := [_, _]) (fun _ _ _ _ h => h) (fun _ _ _ => trivial) X hM hS hl.1 (c_L_below (n := _) (by omega) (by omega)) kl_L_15 mf_L_below ⟨Nat.le_of_ble_eq_true rfl, Nat.le_of_ble_eq_true rfl⟩ ⟨Nat.zero_le _, Nat.zero_le _⟩ rfl (Nat.le_of_ble_eq_true rfl) dL_build_100 (fun z100 H locs hz100 hM hS _ _ => ?_)
        obtain ⟨q100, hq100, rfl⟩ := hz100
        refine x_iast (q := 0) X hM hS rfl (by omega) (by decide) rfl dL_build_103 (fun H locs hM hS => ?_)
        replace hM : xM G _ (bWS G A B _ _) H := hM
        refine lv_aload X.1 X.2.1 dL_build_104 (lv_at hl 7 rfl) ?_
        refine tn_ic (v := 3) X dL_build_106 (by decide) ?_
        refine lv_iload X.1 X.2.1 dL_build_107 (lv_at hl 1 rfl) ?_
        refine tn_mul X dL_build_109 ?_
        refine tn_ic (v := 2) X dL_build_110 (by decide) ?_
        refine tn_add X dL_build_111 ?_
        refine lv_iload X.1 X.2.1 dL_build_112 (lv_at hl 0 rfl) ?_
        refine tn_bi (v := 7) X dL_build_114 (by decide) ?_
        refine tn_sar X dL_build_116 (fun z116 => ?_)
        refine tn_ic (v := 4) X dL_build_117 (by decide) ?_
        refine kLS (As := [_, _]) (fun _ _ _ _ h => h) (fun _ _ _ => trivial) X hM hS hl.1 (c_L_below (n := _) (by omega) (by omega)) kl_L_15 mf_L_below ⟨Nat.le_of_ble_eq_true rfl, Nat.le_of_ble_eq_true rfl⟩ ⟨Nat.zero_le _, Nat.zero_le _⟩ rfl (Nat.le_of_ble_eq_true rfl) dL_build_118 (fun z118 H locs hz118 hM hS _ _ => ?_)
        obtain ⟨q118, hq118, rfl⟩ := hz118
        refine x_iast (q := 0) X hM hS rfl (by omega) (by decide) rfl dL_build_121 (fun H locs hM hS => ?_)
        replace hM : xM G _ (bWS G A B _ _) H := hM
        refine lv_aload_n X.1 X.2.1 dL_build_122 rfl (lv_at hl 3 rfl) ?_
        refine lv_aload X.1 X.2.1 dL_build_123 (lv_at hl 7 rfl) ?_
        refine tn_ic (v := 3) X dL_build_125 (by decide) ?_
        refine lv_iload X.1 X.2.1 dL_build_126 (lv_at hl 1 rfl) ?_
        refine tn_mul X dL_build_128 ?_
        refine x_iald (q := 0) X hM rfl (by omega) (by decide) dL_build_129 ?_
        refine tn_as (show _ = f (3 * a) from (va_up_ne _ _ (show 3 * a ≠ 3 * a + 2 by omega)).trans (va_up_ne _ _ (show 3 * a ≠ 3 * a + 1 by omega))) ?_
        refine lv_aload X.1 X.2.1 dL_build_130 (lv_at hl 7 rfl) ?_
        refine tn_ic (v := 3) X dL_build_132 (by decide) ?_
        refine lv_iload X.1 X.2.1 dL_build_133 (lv_at hl 1 rfl) ?_
        refine tn_mul X dL_build_135 ?_
        refine tn_ic (v := 1) X dL_build_136 (by decide) ?_
        refine tn_add X dL_build_137 ?_
        refine x_iald (q := 0) X hM rfl (by omega) (by decide) dL_build_138 ?_
        refine tn_as (show _ = q100 from (va_up_ne _ _ (show 3 * a + 1 ≠ 3 * a + 2 by omega)).trans (va_up_self _ _ _)) ?_
        refine kLD (As := [_, _]) X hM hS hl.1 (c_X5_addArticle hB.1 hf.1 (by omega) (by omega) (by have := hB.2.1; omega)) rfl kl_L_19 mf_X5_addArticle ⟨Nat.le_of_ble_eq_true rfl, Nat.le_of_ble_eq_true rfl⟩ ⟨Nat.zero_le _, Nat.zero_le _⟩ rfl (Nat.le_of_ble_eq_true rfl) dL_build_139 (fun r139 ν139 H locs hp139 hM hS => ?_)
        obtain ⟨e139, rfl⟩ := hp139
        refine tn_as (show r139 = a from e139.trans hB.2.1) ?_
        have hB1 := hB.art (by omega) (show f (3 * a) ≤ 10000 by omega) (show q100 ≤ 7 by omega)
        refine lv_iload X.1 X.2.1 dL_build_142 (lv_at hl 1 rfl) ?_
        refine tn_ne (tgt := 165) X dL_build_144 (by decide) (by omega) (by omega) (fun h144 => ?_) (fun h144 => ?_)
        · exfalso; omega
        · refine lv_aload_n X.1 X.2.1 dL_build_147 rfl (lv_at hl 3 rfl) ?_
          refine lv_iload X.1 X.2.1 dL_build_148 (lv_at hl 1 rfl) ?_
          refine lv_aload X.1 X.2.1 dL_build_150 (lv_at hl 7 rfl) ?_
          refine tn_ic (v := 3) X dL_build_152 (by decide) ?_
          refine lv_iload X.1 X.2.1 dL_build_153 (lv_at hl 1 rfl) ?_
          refine tn_mul X dL_build_155 ?_
          refine tn_ic (v := 2) X dL_build_156 (by decide) ?_
          refine tn_add X dL_build_157 ?_
          refine x_iald (q := 0) X hM rfl (by omega) (by decide) dL_build_158 ?_
          refine tn_as (show _ = q118 from va_up_self _ _ _) ?_
          refine kLD (As := [_, _]) X hM hS hl.1 (c_X5_put hB1.1 (by have := hB1.2.1; omega) (by omega)) rfl kl_L_24 mf_X5_put ⟨Nat.le_of_ble_eq_true rfl, Nat.le_of_ble_eq_true rfl⟩ ⟨Nat.zero_le _, Nat.zero_le _⟩ rfl (Nat.le_of_ble_eq_true rfl) dL_build_159 (fun r159 ν159 H locs hp159 hM hS => ?_)
          obtain ⟨e159, rfl⟩ := hp159
          refine tn_as (show r159 = 0 from e159.trans ?_) ?_
          · rw [up2_ne (by decide), up2_ne (by decide), up2_ne (by decide)]; exact hB.2.2.2.2 a (by omega)
          refine tn_eq0 (tgt := 167) X dL_build_162 (by decide) (by omega) (fun h162 => ?_) (fun h162 => ?_)
          · refine tn_inc (k := 1) (w := 1) X dL_build_167 hl rfl (by decide) (by decide) rfl (fun ls hl => ?_)
            replace hl : lv_has ls 12 [(8, _), (9, _), (7, _), (0, _), (1, _), (2, _), (4, _), (5, _), (6, _)] := hl
            refine lv_goto (tgt := 16) X.1 X.2.1 dL_build_170 (by decide) ?_
            exact ih (a + 1) many _ _ g (by omega) hm1 hm5 (hB1.put (by omega) (by omega)) ls H locs hM hS (lv_sub hl [0, 2, 3, 4, 5, 6, 7, 8] rfl)
          · exfalso; omega
      refine lv_iload X.1 X.2.1 dL_build_16 (lv_at hl 0 rfl) ?_
      refine lv_iload X.1 X.2.1 dL_build_18 (lv_at hl 1 rfl) ?_
      refine tn_ge (tgt := 173) X dL_build_20 (by decide) (by omega) (by omega) (fun h20 => ?_) (fun h20 => ?_)
      · exfalso; omega
      · refine lv_aload_n X.1 X.2.1 dL_build_23 rfl (lv_at hl 3 rfl) ?_
        refine lv_iload_n X.1 X.2.1 dL_build_24 rfl (lv_at hl 4 rfl) ?_
        refine tn_ic (v := 1) X dL_build_25 (by decide) ?_
        refine tn_add X dL_build_26 ?_
        refine lv_iload X.1 X.2.1 dL_build_27 (lv_at hl 0 rfl) ?_
        refine tn_ic (v := 3) X dL_build_29 (by decide) ?_
        refine tn_rem X dL_build_30 (by omega) (by omega) (by omega) ?_
        refine tn_add X dL_build_31 ?_
        refine kLS (As := [_, _]) hasX.calling (hX.go hb hS) X hM hS hl.1 (c_L_cell (k := _) (by omega)) kl_L_9 mf_L_cell ⟨Nat.le_of_ble_eq_true rfl, Nat.le_of_ble_eq_true rfl⟩ ⟨Nat.zero_le _, Nat.zero_le _⟩ rfl (Nat.le_of_ble_eq_true rfl) dL_build_32 (fun z32 H locs _ hM hS _ _ => ?_)
        refine lv_iload X.1 X.2.1 dL_build_35 (lv_at hl 0 rfl) ?_
        refine tn_ic (v := 3) X dL_build_37 (by decide) ?_
        refine tn_div X dL_build_38 (by omega) (by omega) (by omega) ?_
        refine tn_bi (v := 9) X dL_build_39 (by decide) ?_
        refine tn_mul X dL_build_41 ?_
        refine tn_sar X dL_build_42 (fun z42 => ?_)
        refine lv_istore X.1 X.2.1 dL_build_43 hl (by decide) rfl (fun ls hl => ?_)
        replace hl : lv_has ls 12 [(9, _), (8, _), (7, _), (0, _), (1, _), (2, _), (4, _), (5, _), (6, _)] := hl
        refine lv_aload X.1 X.2.1 dL_build_45 (lv_at hl 7 rfl) ?_
        refine tn_ic (v := 3) X dL_build_47 (by decide) ?_
        refine lv_iload X.1 X.2.1 dL_build_48 (lv_at hl 1 rfl) ?_
        refine tn_mul X dL_build_50 ?_
        refine lv_iload X.1 X.2.1 dL_build_51 (lv_at hl 0 rfl) ?_
        refine tn_ic (v := 3) X dL_build_53 (by decide) ?_
        refine kLS (As := [_, _]) (fun _ _ _ _ h => h) (fun _ _ _ => trivial) X hM hS hl.1 (c_L_below (n := _) (by omega) (by omega)) kl_L_15 mf_L_below ⟨Nat.le_of_ble_eq_true rfl, Nat.le_of_ble_eq_true rfl⟩ ⟨Nat.zero_le _, Nat.zero_le _⟩ rfl (Nat.le_of_ble_eq_true rfl) dL_build_54 (fun z54 H locs hz54 hM hS _ _ => ?_)
        obtain ⟨q54, hq54, rfl⟩ := hz54
        refine tn_ne0 (tgt := 74) X dL_build_57 (by decide) (by omega) (fun h57 => ?_) (fun h57 => ?_)
        · refine tn_ic (v := 1) X dL_build_74 (by decide) ?_
          refine lv_iload X.1 X.2.1 dL_build_75 (lv_at hl 0 rfl) ?_
          refine tn_ic (v := 2) X dL_build_77 (by decide) ?_
          refine tn_sar X dL_build_78 (fun z78 => ?_)
          refine tn_si (v := 900) X dL_build_79 (by decide) ?_
          refine kLS (As := [_, _]) (fun _ _ _ _ h => h) (fun _ _ _ => trivial) X hM hS hl.1 (c_L_below (n := _) (by omega) (by omega)) kl_L_15 mf_L_below ⟨Nat.le_of_ble_eq_true rfl, Nat.le_of_ble_eq_true rfl⟩ ⟨Nat.zero_le _, Nat.zero_le _⟩ rfl (Nat.le_of_ble_eq_true rfl) dL_build_82 (fun z82 H locs hz82 hM hS _ _ => ?_)
          obtain ⟨q82, hq82, rfl⟩ := hz82
          refine tn_add X dL_build_85 ?_
          refine x_iast (q := 0) X hM hS rfl (by omega) (by decide) rfl dL_build_86 (fun H locs hM hS => ?_)
          replace hM : xM G _ (bWS G A B _ _) H := hM
          exact K87 _ _ (by rw [va_up_self]; omega) ls H locs hM hS (lv_sub hl [0, 1, 2, 3, 4, 5, 6, 7, 8] rfl)
        · refine tn_ic (v := 1) X dL_build_60 (by decide) ?_
          refine lv_iload X.1 X.2.1 dL_build_61 (lv_at hl 0 rfl) ?_
          refine tn_ic (v := 2) X dL_build_63 (by decide) ?_
          refine tn_sar X dL_build_64 (fun z64 => ?_)
          refine tn_bi (v := 12) X dL_build_65 (by decide) ?_
          refine kLS (As := [_, _]) (fun _ _ _ _ h => h) (fun _ _ _ => trivial) X hM hS hl.1 (c_L_below (n := _) (by omega) (by omega)) kl_L_15 mf_L_below ⟨Nat.le_of_ble_eq_true rfl, Nat.le_of_ble_eq_true rfl⟩ ⟨Nat.zero_le _, Nat.zero_le _⟩ rfl (Nat.le_of_ble_eq_true rfl) dL_build_67 (fun z67 H locs hz67 hM hS _ _ => ?_)
          obtain ⟨q67, hq67, rfl⟩ := hz67
          refine tn_add X dL_build_70 ?_
          refine lv_goto (tgt := 86) X.1 X.2.1 dL_build_71 (by decide) ?_
          refine x_iast (q := 0) X hM hS rfl (by omega) (by decide) rfl dL_build_86 (fun H locs hM hS => ?_)
          replace hM : xM G _ (bWS G A B _ _) H := hM
          exact K87 _ _ (by rw [va_up_self]; omega) ls H locs hM hS (lv_sub hl [0, 1, 2, 3, 4, 5, 6, 7, 8] rfl)
  refine tn_ic (v := 1) X dL_build_0 (by decide) ?_
  refine lv_aload_n X.1 X.2.1 dL_build_1 rfl (lv_at hl 1 rfl) ?_
  refine lv_iload_n X.1 X.2.1 dL_build_2 rfl (lv_at hl 2 rfl) ?_
  refine kLS (As := [_, _]) hasX.calling (hX.go hb hS) X hM hS hl.1 (c_L_cell (k := _) (by omega)) kl_L_9 mf_L_cell ⟨Nat.le_of_ble_eq_true rfl, Nat.le_of_ble_eq_true rfl⟩ ⟨Nat.zero_le _, Nat.zero_le _⟩ rfl (Nat.le_of_ble_eq_true rfl) dL_build_3 (fun z3 H locs _ hM hS _ _ => ?_)
  refine lv_iload_n X.1 X.2.1 dL_build_6 rfl (lv_at hl 3 rfl) ?_
  refine kLS (As := [_, _]) (fun _ _ _ _ h => h) (fun _ _ _ => trivial) X hM hS hl.1 (c_L_below (n := _) (by omega) (by omega)) kl_L_15 mf_L_below ⟨Nat.le_of_ble_eq_true rfl, Nat.le_of_ble_eq_true rfl⟩ ⟨Nat.zero_le _, Nat.zero_le _⟩ rfl (Nat.le_of_ble_eq_true rfl) dL_build_7 (fun z7 H locs hz7 hM hS _ _ => ?_)
  obtain ⟨q7, hq7, rfl⟩ := hz7
  refine tn_add X dL_build_10 ?_
  refine lv_istore X.1 X.2.1 dL_build_11 hl (by decide) rfl (fun ls hl => ?_)
  replace hl : lv_has ls 12 [(7, _), (0, _), (1, _), (2, _), (3, _), (4, _), (5, _), (6, _)] := hl
  refine tn_ic (v := 0) X dL_build_13 (by decide) ?_
  refine lv_istore X.1 X.2.1 dL_build_14 hl (by decide) rfl (fun ls hl => ?_)
  replace hl : lv_has ls 12 [(8, _), (7, _), (0, _), (1, _), (2, _), (3, _), (4, _), (5, _), (6, _)] := hl
  exact L1 (1 + q7) 0 (1 + q7) nu0 f0 g0 (by omega) (by omega) (by omega) bOK_0 ls H locs hM hS (lv_sub hl [0, 1, 2, 3, 4, 6, 7, 8] rfl)
set_option maxRecDepth 100000 in
theorem c_L_build {l : Launch} {G : dG} {b A B : Nat} {f0 g0 : Nat → Nat} : Met l yL_build (wsD yL_build cL_build 12 (some (.array .int))) (rmC 3 1 2) (bPc G b A B f0 g0) (bQ G) 1 2 (pA G) := by
  refine Met.ofW (cc := cL_build) (maxL := 12) (ret := some (.array .int)) (by decide +kernel) rfl ?_
  intro p e s m args below meth c s₁ BB hml hv
  obtain ⟨rfl, hM, hK, hX, hb⟩ := hv
  have hts := atoms_spec (ws := wsD yL_build cL_build 12 (some (.array .int))) BB.pre
  have hl := lv_entry [Value.ref (ra G 0), .ref b, .int (nI 0), .int (nI 5), .int (nI 5), .ref A, .ref B] (show (lg_sl _).length ≤ 12 from Nat.le_of_ble_eq_true rfl)
  rw [lg_entry_eq]
  exact b_L_build p e s m _ below meth c _ ⟨BB.exec, BB.bytes, hml, findClass_of_methodNamed BB.named, fun w h => hts w (List.mem_cons_of_mem _ h), hK⟩ hM hX hb BB.returns BB.notSynchronized hl
end
section
/-! ===== the best set is the least of all allowed ones ===== -/
theorem bt_tb (n k : Nat) : (bt n k = 1) ↔ n.testBit k = true := by
  rw [Nat.testBit_eq_decide_div_mod_eq]; unfold bt; exact (decide_eq_true_iff).symm
theorem bt_cases (n k : Nat) : bt n k = 0 ∨ bt n k = 1 := by have := bt_le n k; omega
theorem bt_ext {m n j k : Nat} (h : m.testBit j = n.testBit k) : bt m j = bt n k := by
  have h1 := bt_tb m j
  have h2 := bt_tb n k
  rcases bt_cases m j with a | a <;> rcases bt_cases n k with b | b
  · omega
  · exfalso; rw [h2.mp b] at h; have := h1.mpr h; omega
  · exfalso; rw [h1.mp a] at h; have := h2.mpr h.symm; omega
  · omega
theorem bt_mod {T m k : Nat} (h : k < m) : bt (T % 2 ^ m) k = bt T k := bt_ext (by rw [Nat.testBit_mod_two_pow]; simp [h])
theorem bt_zero {st m k : Nat} (h : st < 2 ^ m) (hk : m ≤ k) : bt st k = 0 := by
  unfold bt
  rw [Nat.div_eq_of_lt (Nat.lt_of_lt_of_le h (Nat.pow_le_pow_right (by decide) hk))]
theorem mod_mod2 (T : Nat) {m k : Nat} (h : k ≤ m) : T % 2 ^ m % 2 ^ k = T % 2 ^ k :=
  Nat.mod_mod_of_dvd T ⟨2 ^ (m - k), by rw [← Nat.pow_add]; congr 1; omega⟩
theorem mod_succ2 (T k : Nat) : T % 2 ^ (k + 1) = T % 2 ^ k + 2 ^ k * bt T k := Nat.mod_pow_succ
theorem or_pow {st k : Nat} (h : st < 2 ^ k) : st ||| 2 ^ k = st + 2 ^ k := by
  have := Nat.two_pow_add_eq_or_of_lt h 1
  rw [Nat.mul_one] at this
  rw [Nat.or_comm, ← this, Nat.add_comm]
theorem and_mask (a k : Nat) : a &&& (2 ^ k - 1) = a % 2 ^ k := Nat.and_two_pow_sub_one_eq_mod a k
theorem bt_add_pow {st k : Nat} (h : st < 2 ^ k) : bt (st + 2 ^ k) k = 1 := by
  unfold bt
  rw [Nat.add_div_right _ (Nat.two_pow_pos k), Nat.div_eq_of_lt h]
theorem alF_mod {ν : Mm} {T m n : Nat} (h : n ≤ m) : alF ν (T % 2 ^ m) n = alF ν T n := by
  induction n with
  | zero => rfl
  | succ n ih => rw [alF_succ, alF_succ, ih (by omega), bt_mod (by omega), and_mask, and_mask, mod_mod2 T (by omega)]
theorem alF_pad {ν : Mm} {st nx n : Nat} (h : st < 2 ^ nx) (hn : nx ≤ n) : alF ν st n = alF ν st nx := by
  induction n with
  | zero => rw [show nx = 0 by omega]
  | succ n ih =>
    by_cases e : nx = n + 1
    · rw [e]
    · rw [alF_succ, ih (by omega), bt_zero h (by omega)]; simp
theorem rsF_mod {ν : Mm} {L T m n : Nat} (h : n ≤ m) : rsF ν L (T % 2 ^ m) n = rsF ν L T n := by
  induction n with
  | zero => rfl
  | succ n ih => rw [rsF_succ, rsF_succ, ih (by omega), bt_mod (by omega)]
theorem rsF_pad {ν : Mm} {L st nx n : Nat} (h : st < 2 ^ nx) (hn : nx ≤ n) : rsF ν L st n = rsF ν L st nx := by
  induction n with
  | zero => rw [show nx = 0 by omega]
  | succ n ih =>
    by_cases e : nx = n + 1
    · rw [e]
    · rw [rsF_succ, ih (by omega), bt_zero h (by omega), if_neg (by decide)]
theorem ubF_bt {ν : Mm} {c k : Nat} (h : k < c) : bt (ubF ν c) k = 1 ↔ usab ν k := by
  induction c with
  | zero => omega
  | succ c ih =>
    have hl := ubF_lt (ν := ν) c
    have low : k < c → bt (ubF ν (c + 1)) k = bt (ubF ν c) k := fun hk => by
      simp only [ubF]
      split
      · rw [or_pow hl, ← bt_mod (T := ubF ν c + 2 ^ c) hk, Nat.add_mod_right, Nat.mod_eq_of_lt hl]
      · rfl
    by_cases e : k = c
    · subst e
      simp only [ubF]
      split
      · next hu => rw [or_pow hl, bt_add_pow hl]; exact ⟨fun _ => hu, fun _ => rfl⟩
      · next hu => rw [bt_zero hl (Nat.le_refl _)]; exact ⟨fun q => absurd q (by decide), fun q => absurd q hu⟩
    · rw [low (by omega)]; exact ih (by omega)
/-- as good as st at pr, or better -/
def aG (S : Nat × Nat × Nat) (st pr : Nat) : Prop := ¬ better pr st S.2.1 S.1
theorem aG_self {lo st pr : Nat} {S : Nat × Nat × Nat} : aG (of3 lo st pr S) st pr := by
  unfold aG of3
  by_cases h : better pr st S.2.1 S.1
  · simp only [if_pos h]; unfold better; omega
  · simp only [if_neg h]; exact h
theorem aG_mono {lo st pr a b : Nat} {S : Nat × Nat × Nat} (h : aG S a b) : aG (of3 lo st pr S) a b := by
  unfold aG at h ⊢
  unfold of3
  by_cases h2 : better pr st S.2.1 S.1
  · simp only [if_pos h2]
    unfold better at h h2 ⊢
    omega
  · simp only [if_neg h2]; exact h
def toT (ν : Mm) (st : Nat) : Nat := gdF ν 1 st + feF ν st (gdF ν 1 st)
theorem toF_T (ν : Mm) (st : Nat) : toF ν st (rsF ν 1 st (ν 0 6)) = toT ν st := rfl
/-- a set found, or none yet -/
def fnd (ν : Mm) (S : Nat × Nat × Nat) : Prop := (S.2.1 = 610001 ∧ S.1 = 0) ∨ (al ν S.1 = true ∧ S.1 < 2 ^ ν 0 6 ∧ S.2.1 = toT ν S.1)
theorem fnd_of3 {ν : Mm} {lo st : Nat} {S : Nat × Nat × Nat} (h : fnd ν S) (h1 : al ν st = true) (h2 : st < 2 ^ ν 0 6) : fnd ν (of3 lo st (toT ν st) S) := by
  unfold of3
  by_cases h3 : better (toT ν st) st S.2.1 S.1
  · simp only [if_pos h3]; exact Or.inr ⟨h1, h2, rfl⟩
  · simp only [if_neg h3]; exact h
theorem itr_inv {σ : Type} {F : Nat → σ → σ} {a : Nat} {P : σ → Prop} (n : Nat) (h : ∀ k S, a ≤ k → k < a + n → P S → P (F k S)) : ∀ S, P S → P (itr F a n S) := by
  induction n with
  | zero => exact fun S hS => hS
  | succ n ih => exact fun S hS => h (a + n) _ (by omega) (by omega) (ih (fun k S h1 h2 => h k S h1 (by omega)) S hS)
theorem itr_hit {σ : Type} {F : Nat → σ → σ} {a k0 : Nat} {Z : σ → Prop} (n : Nat) (h0 : a ≤ k0) (h1 : k0 < a + n) (hit : ∀ S, Z (F k0 S)) (keep : ∀ k S, a ≤ k → k < a + n → Z S → Z (F k S)) : ∀ S, Z (itr F a n S) := by
  induction n with
  | zero => omega
  | succ n ih =>
    intro S
    by_cases e : k0 = a + n
    · subst e; exact hit _
    · exact keep (a + n) _ (by omega) (by omega) (ih (by omega) (fun k S h1 h2 => keep k S h1 (by omega)) S)
/-- the lowest bit at nx or above -/
theorem low_bit {T nx : Nat} (c : Nat) (h : nx ≤ c) (hT : T % 2 ^ c ≠ T % 2 ^ nx) : ∃ k, nx ≤ k ∧ k < c ∧ bt T k = 1 ∧ T % 2 ^ k = T % 2 ^ nx := by
  induction c with
  | zero => exact absurd (by rw [show nx = 0 by omega]) hT
  | succ c ih =>
    by_cases e : nx = c + 1
    · exact absurd (by rw [e]) hT
    by_cases e2 : T % 2 ^ c = T % 2 ^ nx
    · refine ⟨c, by omega, by omega, ?_, e2⟩
      rcases bt_cases T c with b | b
      · rw [mod_succ2, b, Nat.mul_zero, Nat.add_zero] at hT; exact absurd e2 hT
      · exact b
    · obtain ⟨k, h1, h2, h3, h4⟩ := ih (by omega) e2
      exact ⟨k, h1, by omega, h3, h4⟩
theorem ex_succ (ν : Mm) (lo us fu st nx : Nat) (f : Nat → Nat) (S : Nat × Nat × Nat) : exF ν lo us (fu + 1) st nx f S = itr (fun k S => if bt us k = 1 ∧ gf ν k st = true then exF ν lo us fu (st ||| 2 ^ k) (k + 1) (apK ν 1 k f) S else S) nx (ν 0 6 - nx) (of3 lo st (toF ν st f) S) := rfl
theorem ex_main {ν : Mm} {lo : Nat} (fu : Nat) : ∀ (nx st : Nat), nx ≤ ν 0 6 → ν 0 6 ≤ nx + fu → st < 2 ^ nx → alF ν st nx = true → ∀ S : Nat × Nat × Nat,
    (∀ a b, aG S a b → aG (exF ν lo (ubF ν (ν 0 6)) fu st nx (rsF ν 1 st nx) S) a b) ∧ (fnd ν S → fnd ν (exF ν lo (ubF ν (ν 0 6)) fu st nx (rsF ν 1 st nx) S)) ∧ ∀ T, T < 2 ^ ν 0 6 → al ν T = true → T % 2 ^ nx = st → aG (exF ν lo (ubF ν (ν 0 6)) fu st nx (rsF ν 1 st nx) S) T (toT ν T) := by
  induction fu with
  | zero =>
    intro nx st h1 h2 h3 h4 S
    have e : nx = ν 0 6 := by omega
    have es : exF ν lo (ubF ν (ν 0 6)) 0 st nx (rsF ν 1 st nx) S = of3 lo st (toT ν st) S := by
      show of3 lo st (toF ν st (rsF ν 1 st nx)) S = _
      rw [e, toF_T]
    rw [es]
    refine ⟨fun a b h => aG_mono h, fun h => fnd_of3 h (by unfold al; rw [← e]; exact h4) (by rw [← e]; exact h3), fun T hT _ hm => ?_⟩
    rw [e, Nat.mod_eq_of_lt hT] at hm
    rw [hm]; exact aG_self
  | succ fu ih =>
    intro nx st h1 h2 h3 h4 S
    have er : rsF ν 1 st nx = rsF ν 1 st (ν 0 6) := (rsF_pad h3 h1).symm
    have hal : al ν st = true := by unfold al; rw [alF_pad h3 h1]; exact h4
    have hlt : st < 2 ^ ν 0 6 := Nat.lt_of_lt_of_le h3 (Nat.pow_le_pow_right (by decide) h1)
    rw [ex_succ, show toF ν st (rsF ν 1 st nx) = toT ν st by rw [er, toF_T]]
    -- a step
    have step : ∀ k, nx ≤ k → k < ν 0 6 → bt (ubF ν (ν 0 6)) k = 1 ∧ gf ν k st = true → st ||| 2 ^ k < 2 ^ (k + 1) ∧ alF ν (st ||| 2 ^ k) (k + 1) = true ∧ apK ν 1 k (rsF ν 1 st nx) = rsF ν 1 (st ||| 2 ^ k) (k + 1) := by
      intro k hk1 hk2 hg
      have hsk : st < 2 ^ k := Nat.lt_of_lt_of_le h3 (Nat.pow_le_pow_right (by decide) hk1)
      rw [or_pow hsk]
      have hm : (st + 2 ^ k) % 2 ^ k = st := by rw [Nat.add_mod_right, Nat.mod_eq_of_lt hsk]
      refine ⟨by rw [Nat.pow_succ]; omega, ?_, ?_⟩
      · have ha : alF ν (st + 2 ^ k) k = true := by
          rw [← alF_mod (Nat.le_refl k), hm, alF_pad h3 hk1]; exact h4
        rw [alF_succ, ha, and_mask, hm, hg.2, decide_eq_true ((ubF_bt hk2).mp hg.1)]
        simp
      · rw [rsF_succ, if_pos (bt_add_pow hsk), ← rsF_mod (T := st + 2 ^ k) (Nat.le_refl k), hm, rsF_pad h3 hk1]
    have keepA : ∀ a b k (S : Nat × Nat × Nat), nx ≤ k → k < nx + (ν 0 6 - nx) → aG S a b → aG (if bt (ubF ν (ν 0 6)) k = 1 ∧ gf ν k st = true then exF ν lo (ubF ν (ν 0 6)) fu (st ||| 2 ^ k) (k + 1) (apK ν 1 k (rsF ν 1 st nx)) S else S) a b := by
      intro a b k S hk1 hk2 hS
      by_cases hg : bt (ubF ν (ν 0 6)) k = 1 ∧ gf ν k st = true
      · rw [if_pos hg]
        obtain ⟨s1, s2, s3⟩ := step k hk1 (by omega) hg
        rw [s3]
        exact (ih (k + 1) (st ||| 2 ^ k) (by omega) (by omega) s1 s2 S).1 a b hS
      · rw [if_neg hg]; exact hS
    refine ⟨fun a b h => itr_inv _ (fun k S hk1 hk2 hS => keepA a b k S hk1 hk2 hS) _ (aG_mono h), fun h => itr_inv _ (fun k S hk1 hk2 hS => ?_) _ (fnd_of3 h hal hlt), fun T hT hTa hm => ?_⟩
    · by_cases hg : bt (ubF ν (ν 0 6)) k = 1 ∧ gf ν k st = true
      · simp only [if_pos hg]
        obtain ⟨s1, s2, s3⟩ := step k hk1 (by omega) hg
        rw [s3]
        exact (ih (k + 1) (st ||| 2 ^ k) (by omega) (by omega) s1 s2 S).2.1 hS
      · simp only [if_neg hg]; exact hS
    · by_cases e : T % 2 ^ ν 0 6 = T % 2 ^ nx
      · rw [Nat.mod_eq_of_lt hT, hm] at e
        subst e
        exact itr_inv _ (fun k S hk1 hk2 hS => keepA _ _ k S hk1 hk2 hS) _ aG_self
      · obtain ⟨k, k1, k2, k3, k4⟩ := low_bit (ν 0 6) h1 e
        have ha := alF_all (show alF ν T (ν 0 6) = true from hTa) k2 k3
        rw [and_mask, k4, hm] at ha
        have hg : bt (ubF ν (ν 0 6)) k = 1 ∧ gf ν k st = true := ⟨(ubF_bt k2).mpr ha.1, ha.2⟩
        obtain ⟨s1, s2, s3⟩ := step k k1 k2 hg
        refine itr_hit (k0 := k) _ k1 (by omega) (fun S => ?_) (fun k S hk1 hk2 hS => keepA _ _ k S hk1 hk2 hS) _
        simp only [if_pos hg]
        rw [s3]
        refine (ih (k + 1) (st ||| 2 ^ k) (by omega) (by omega) s1 s2 S).2.2 T hT hTa ?_
        have hsk : st < 2 ^ k := Nat.lt_of_lt_of_le h3 (Nat.pow_le_pow_right (by decide) k1)
        rw [mod_succ2, k3, k4, hm, Nat.mul_one, or_pow hsk]
theorem alF_zero (ν : Mm) (n : Nat) : alF ν 0 n = true := by
  rw [alF_pad (nx := 0) (by decide) (Nat.zero_le n)]; rfl
theorem toT_le {ν : Mm} (hW : WD ν) (st : Nat) : toT ν st ≤ 610000 := by
  have h1 := gdF_le hW lotB_1 st
  have h2 := feF_le hW st (gdF ν 1 st)
  unfold toT; omega
/-- the best set -/
theorem srch_best {ν : Mm} (hW : WD ν) (lo : Nat) : al ν (srch ν lo).1 = true ∧ (srch ν lo).1 < 2 ^ ν 0 6 ∧ ∀ T, T < 2 ^ ν 0 6 → al ν T = true → ¬ better (toT ν T) T (toT ν (srch ν lo).1) (srch ν lo).1 := by
  have hm := ex_main (ν := ν) (lo := lo) 8 0 0 (Nat.zero_le _) (by have := hW.nc; omega) (by decide) rfl (0, 610001, 610001)
  have e : exF ν lo (ubF ν (ν 0 6)) 8 0 0 (rsF ν 1 0 0) (0, 610001, 610001) = srch ν lo := rfl
  rw [e] at hm
  obtain ⟨-, h2, h3⟩ := hm
  have h0 := h3 0 (Nat.two_pow_pos _) (alF_zero ν _) (Nat.zero_mod _)
  rcases h2 (Or.inl ⟨rfl, rfl⟩) with ⟨q1, q2⟩ | ⟨q1, q2, q3⟩
  · exfalso
    have := toT_le hW 0
    unfold aG better at h0
    rw [q1] at h0
    omega
  · refine ⟨q1, q2, fun T hT hTa => ?_⟩
    have := h3 T hT hTa (Nat.mod_one _)
    unfold aG at this
    rw [q3] at this
    exact this
end
section
/-! ===== what is bought and given back, in numbers ===== -/
theorem sm_mono {f g : Nat → Nat} {n : Nat} (h : ∀ j, j < n → f j ≤ g j) : sm f n ≤ sm g n := by
  induction n with
  | zero => exact Nat.le_refl _
  | succ n ih =>
    have h1 := ih (fun j hj => h j (by omega))
    have h2 := h n (by omega)
    simp only [sm]; omega
theorem sm_const {f : Nat → Nat} {m v : Nat} (n : Nat) (h : ∀ j, m ≤ j → j < m + n → f j = v) : sm f (m + n) = sm f m + v * n := by
  induction n with
  | zero => rfl
  | succ n ih =>
    have h1 := ih (fun j a b => h j a (by omega))
    have h2 := h (m + n) (by omega) (by omega)
    show sm f (m + n) + f (m + n) = _
    rw [h1, h2, Nat.mul_succ]; omega
theorem bt_255 {c : Nat} (h : c ≤ 7) : bt 255 c = 1 := by
  have : ∀ c : Fin 8, bt 255 c.val = 1 := by decide +kernel
  exact this ⟨c, by omega⟩
theorem sm_f0 {ν : Mm} {L : Nat} (a : Nat) (h : ∀ i, i < a → ν (L + 2) i ≤ 7) : sm (fun j => ν (L + 1) (pcA ν L a j)) (cnt ν L a) = pin ν L 255 a := by
  induction a with
  | zero => rfl
  | succ a ih =>
    have h1 := ih (fun i hi => h i (by omega))
    rw [cnt_succ, pin_succ, if_pos (bt_255 (h a (by omega))), ← h1]
    rw [sm_const (v := ν (L + 1) a) (ν (L + 3) a) (fun j hj _ => by
      show ν (L + 1) (if j < cnt ν L a then pcA ν L a j else a) = _
      rw [if_neg (by omega)])]
    congr 1
    exact sm_congr (n := cnt ν L a) (fun j hj => by
      show ν (L + 1) (if j < cnt ν L a then pcA ν L a j else a) = _
      rw [if_pos hj]) _ (Nat.le_refl _)
theorem rsF_f0 {ν : Mm} {L st : Nat} (k j : Nat) : rsF ν L st k j ≤ f0L ν L j := by
  induction k with
  | zero => exact Nat.le_refl _
  | succ k ih =>
    rw [rsF_succ]
    split
    · exact Nat.le_trans (apF_le j) ih
    · exact ih
/-- goods are never dearer than the value -/
theorem gd_le_pin {ν : Mm} (hW : WD ν) {L : Nat} (hL : lotB L) (st : Nat) : gdF ν L st ≤ pin ν L 255 10 := by
  rw [gdF_eq, ← sm_f0 10 (fun i hi => (hW.1 L hL i hi).2.1)]
  exact sm_mono (fun j _ => rsF_f0 _ j)
/-! an empty lot -/
theorem cnt_zero {ν : Mm} {L a : Nat} (h : cnt ν L a = 0) : ∀ i, i < a → ν (L + 3) i = 0 := by
  induction a with
  | zero => intro i hi; omega
  | succ a ih =>
    rw [cnt_succ] at h
    intro i hi
    by_cases e : i = a
    · subst e; omega
    · exact ih (by omega) i (by omega)
theorem pin_zero {ν : Mm} {L cs a : Nat} (h : ∀ i, i < a → ν (L + 3) i = 0) : pin ν L cs a = 0 := by
  induction a with
  | zero => rfl
  | succ a ih =>
    rw [pin_succ, ih (fun i hi => h i (by omega)), h a (by omega)]
    split <;> rfl
theorem pin_cnt {ν : Mm} {L cs : Nat} (h : cnt ν L 10 = 0) : pin ν L cs 10 = 0 := pin_zero (cnt_zero h)
theorem srF_zero {ν : Mm} {q : Nat} (h : cnt ν (31 + 5 * q) 10 = 0) (c : Nat) : srF ν q c = 0 := by
  induction c with
  | zero => rfl
  | succ c ih =>
    simp only [srF]
    rw [if_neg (fun hh => by have := pin_cnt (cs := ν (22 + c) 2) h; have := hh.2.1; omega), ih]
theorem gd_zero {ν : Mm} {L st : Nat} (h : cnt ν L 10 = 0) : gdF ν L st = 0 := by
  rw [gdF_eq, h]; rfl
/-- the acting ones are no more than before -/
theorem srF_sub {ν : Mm} {q k : Nat} (c : Nat) (h : bt (srF ν q c) k = 1) : bt (ν (30 + 5 * q) 1) k = 1 := by
  induction c with
  | zero => rw [show bt (srF ν q 0) k = 0 from bt_zero (m := 0) Nat.zero_lt_one (Nat.zero_le _)] at h; omega
  | succ c ih =>
    simp only [srF] at h
    split at h
    · next hh =>
      have hl := srF_lt (ν := ν) (q := q) c
      rw [or_pow hl] at h
      rcases Nat.lt_trichotomy k c with e | e | e
      · rw [← bt_mod e, Nat.add_mod_right, Nat.mod_eq_of_lt hl] at h; exact ih h
      · subst e; exact hh.1
      · have h2 : srF ν q c + 2 ^ c < 2 ^ (c + 1) := by rw [Nat.pow_succ]; omega
        rw [bt_zero h2 (by omega)] at h; omega
    · exact ih h
/-! buy: the first order -/
theorem cnt_cong {ν μ : Mm} {K L : Nat} (a : Nat) (h : ∀ i, i < a → μ (L + 3) i = ν (K + 3) i) : cnt μ L a = cnt ν K a := by
  induction a with
  | zero => rfl
  | succ a ih => rw [cnt_succ, cnt_succ, ih (fun i hi => h i (by omega)), h a (by omega)]
theorem pin_cong {ν μ : Mm} {K L cs : Nat} (a : Nat) (h1 : ∀ i, i < a → μ (L + 1) i = ν (K + 1) i) (h2 : ∀ i, i < a → μ (L + 2) i = ν (K + 2) i) (h3 : ∀ i, i < a → μ (L + 3) i = ν (K + 3) i) : pin μ L cs a = pin ν K cs a := by
  induction a with
  | zero => rfl
  | succ a ih => rw [pin_succ, pin_succ, ih (fun i hi => h1 i (by omega)) (fun i hi => h2 i (by omega)) (fun i hi => h3 i (by omega)), h1 a (by omega), h2 a (by omega), h3 a (by omega)]
theorem cpLot_at {ν : Mm} {K L c i : Nat} (hK : K + 3 < L + 1) (h1 : 1 ≤ c) (h2 : c ≤ 3) (hi : i < 10) : cpLot ν K L (L + c) i = ν (K + c) i := by
  unfold cpLot cp10
  rcases (show c = 1 ∨ c = 2 ∨ c = 3 by omega) with rfl | rfl | rfl
  · rw [va_up_ne _ _ (show L + 1 ≠ L + 3 by omega), va_up_ne _ _ (show L + 1 ≠ L + 2 by omega), va_up_self, if_pos hi]
  · rw [va_up_ne _ _ (show L + 2 ≠ L + 3 by omega), va_up_self, if_pos hi, va_up_ne _ _ (show K + 2 ≠ L + 1 by omega)]
  · rw [va_up_self, if_pos hi, va_up_ne _ _ (show K + 3 ≠ L + 2 by omega), va_up_ne _ _ (show K + 3 ≠ L + 1 by omega)]
/-- what the desk is behind the first buy -/
def b1 (ν : Mm) (st : Nat) : Mm := up2 (up2 (up2 (up2 (cpLot ν 1 31) 30 1 st) 30 2 (feF ν st (gdF ν 1 st))) 30 3 (gdF ν 1 st)) 0 7 1
theorem buyM_0 {ν : Mm} {st : Nat} (h : ν 0 7 = 0) : buyM ν st = va_up (uuM (b1 ν st) st (ν 0 6)) 4 (fun a => if a < 10 then 0 else uuM (b1 ν st) st (ν 0 6) 4 a) := by
  unfold buyM
  simp only [h]
  rfl
theorem buy_off {ν : Mm} {st i : Nat} (h : ν 0 7 = 0) (hc : ν 0 6 ≤ 8) (hi : i ≠ 4) (hi2 : i < 22 ∨ 30 ≤ i) : buyM ν st i = b1 ν st i := by
  rw [buyM_0 h, va_up_ne _ _ hi]
  exact uuM_off _ _ _ _ (by omega)
theorem b1_WD {ν : Mm} {st : Nat} (hW : WD ν) (hs : st < 256) : WD (b1 ν st) := by
  have w1 : WD (cpLot ν 1 (31 + 5 * 0)) := hW.cp lotB_1 (lotB_o (k := 0) (by decide))
  have w2 := w1.upA (q := 0) (v := st) (by decide) hs
  have w3 := w2.upF (q := 0) (v := feF ν st (gdF ν 1 st)) (by decide) (feF_le hW _ _)
  have w4 := w3.upG (q := 0) (v := gdF ν 1 st) (by decide) (gdF_le hW lotB_1 _)
  refine WD.upD (j := 7) (v := 1) w4 ?_
  have := w4.na; have := w4.nc; have := w4.no; have := w4.fe; have := w4.li
  simp only [va_up_self, va_up_ne _ _ (show (5 : Nat) ≠ 7 by decide), va_up_ne _ _ (show (6 : Nat) ≠ 7 by decide), va_up_ne _ _ (show (8 : Nat) ≠ 7 by decide), va_up_ne _ _ (show (9 : Nat) ≠ 7 by decide)]
  exact ⟨by omega, by omega, by omega, by omega, by omega⟩
theorem buy_WD {ν : Mm} {st : Nat} (hW : WD ν) (h : ν 0 7 = 0) (hs : st < 256) : WD (buyM ν st) := by
  rw [buyM_0 h]
  exact (((b1_WD hW hs).uu hW.nc).clr lotB_1)
/-- an order 0 of a desk with one order -/
def oOK (many fee : Nat) (ν : Mm) : Prop := WD ν ∧ ν 0 5 = many ∧ ν 0 7 = 1 ∧ (∀ i, many ≤ i → i < 10 → ν 34 i = 0) ∧ ν 30 2 = fee ∧ (cnt ν 31 10 = 0 → ν 30 3 = 0 ∧ ν 30 1 = 0)
theorem buy_oOK {ν : Mm} {many c st : Nat} (hB : bOK many c ν) (hs : st < 256) (hne : cnt ν 1 10 ≠ 0) : oOK many (feF ν st (gdF ν 1 st)) (buyM ν st) ∧ buyM ν st 30 3 = gdF ν 1 st ∧ buyM ν st 30 1 = st ∧ cnt (buyM ν st) 31 10 = cnt ν 1 10 ∧ pin (buyM ν st) 31 255 10 = pin ν 1 255 10 := by
  obtain ⟨hW, e5, e6, e7, hz⟩ := hB
  have off := fun i (a : i ≠ 4) (b : i < 22 ∨ 30 ≤ i) => buy_off (st := st) e7 hW.nc a b
  have o30 : buyM ν st 30 = va_up (va_up (va_up (cpLot ν 1 31 30) 1 st) 2 (feF ν st (gdF ν 1 st))) 3 (gdF ν 1 st) := by
    rw [off 30 (by decide) (by omega)]
    unfold b1
    rw [up2_ne (by decide), up2_row, up2_row, up2_row]
  have o0 : buyM ν st 0 = va_up (ν 0) 7 1 := by
    rw [off 0 (by decide) (by omega)]
    unfold b1
    rw [up2_row, up2_ne (by decide), up2_ne (by decide), up2_ne (by decide), cpLot_ne (by decide) (by decide) (by decide)]
  have oL : ∀ c i, 1 ≤ c → c ≤ 3 → i < 10 → buyM ν st (31 + c) i = ν (1 + c) i := fun c i a b d => by
    rw [off (31 + c) (by omega) (by omega)]
    unfold b1
    rw [up2_ne (by omega), up2_ne (by omega), up2_ne (by omega), up2_ne (by omega), cpLot_at (by decide) a b d]
  have hcn : cnt (buyM ν st) 31 10 = cnt ν 1 10 := cnt_cong 10 (fun i hi => oL 3 i (by decide) (by decide) hi)
  refine ⟨⟨buy_WD hW e7 hs, ?_, ?_, fun i hi h10 => ?_, ?_, fun h0 => ?_⟩, ?_, ?_, hcn, pin_cong 10 (fun i hi => oL 1 i (by decide) (by decide) hi) (fun i hi => oL 2 i (by decide) (by decide) hi) (fun i hi => oL 3 i (by decide) (by decide) hi)⟩
  · rw [o0, va_up_ne _ _ (by decide), e5]
  · rw [o0, va_up_self]
  · rw [oL 3 i (by decide) (by decide) h10]; exact hz i hi
  · rw [o30, va_up_ne _ _ (by decide), va_up_self]
  · rw [hcn] at h0; exact absurd h0 hne
  · rw [o30, va_up_self]
  · rw [o30, va_up_ne _ _ (by decide), va_up_ne _ _ (by decide), va_up_self]
/-- a piece less -/
theorem cnt_dec {ν : Mm} {L a m : Nat} (h1 : 1 ≤ ν (L + 3) a) : cnt (up2 ν (L + 3) a (ν (L + 3) a - 1)) L m = if a < m then cnt ν L m - 1 else cnt ν L m := by
  have ha : a < m → 1 ≤ cnt ν L m := fun hm => by
    have := cnt_mono (ν := ν) (L := L) (show a + 1 ≤ m by omega)
    rw [cnt_succ] at this; omega
  induction m with
  | zero => rfl
  | succ m ih =>
    have ha' : a < m → 1 ≤ cnt ν L m := fun hm => by
      have := cnt_mono (ν := ν) (L := L) (show a + 1 ≤ m by omega)
      rw [cnt_succ] at this; omega
    rw [cnt_succ, cnt_succ, ih ha']
    by_cases e : a = m
    · subst e
      rw [if_neg (by omega), if_pos (by omega), up2_at]
      omega
    · rw [up2_ne2 (Ne.symm e)]
      by_cases e2 : a < m
      · have := ha' e2
        rw [if_pos e2, if_pos (by omega)]; omega
      · rw [if_neg e2, if_neg (by omega)]
theorem gb_oOK {ν : Mm} {many fee a : Nat} (hO : oOK many fee ν) (ha : a < many) (h1 : 1 ≤ ν 34 a) :
    oOK many fee (gbM ν 0 a 1) ∧ gbM ν 0 a 1 30 3 + gbR ν 0 a 1 = ν 30 3 ∧ cnt (gbM ν 0 a 1) 31 10 + 1 = cnt ν 31 10 ∧ (∀ k, bt (gbM ν 0 a 1 30 1) k = 1 → bt (ν 30 1) k = 1) := by
  obtain ⟨hW, e5, e7, hz, ef, hcz⟩ := hO
  have hm : many ≤ 10 := by have := hW.na; omega
  have w1 : WD (gb1 ν 0 a 1) := hW.upN (L := 31 + 5 * 0) (lotB_o (k := 0) (by decide)) (by have := hW.c6 (lotB_o (k := 0) (by decide)) a (by omega); omega)
  have hsr : srF (gb1 ν 0 a 1) 0 (ν 0 6) < 256 := Nat.lt_of_lt_of_le (srF_lt _) (pow8 hW.nc)
  have w2 : WD (gb2 ν 0 a 1) := w1.upA (q := 0) (by decide) hsr
  have hG : gbG ν 0 a 1 ≤ 600000 := gdF_le w2 (lotB_o (k := 0) (by decide)) _
  have w3 : WD (gbM ν 0 a 1) := by
    unfold gbM
    split
    · exact w2
    · exact w2.upG (q := 0) (by decide) hG
  have off2' : ∀ i, i ≠ 34 → i ≠ 30 → gbM ν 0 a 1 i = ν i := fun i a1 a2 => by
    unfold gbM gb2 gb1
    split
    · rw [up2_ne a2, up2_ne a1]
    · rw [up2_ne a2, up2_ne a2, up2_ne a1]
  have o34 : gbM ν 0 a 1 34 = va_up (ν 34) a (ν 34 a - 1) := by
    unfold gbM gb2 gb1
    split
    · rw [up2_ne (by decide), up2_row]
    · rw [up2_ne (by decide), up2_ne (by decide), up2_row]
  have c1 : cnt (gbM ν 0 a 1) 31 10 = cnt (gb1 ν 0 a 1) 31 10 := cnt_cong 10 (fun i hi => by
    show gbM ν 0 a 1 34 i = up2 ν 34 a (ν 34 a - 1) 34 i
    rw [o34, up2_row])
  have c2 : cnt (gb2 ν 0 a 1) 31 10 = cnt (gb1 ν 0 a 1) 31 10 := cnt_cong 10 (fun i hi => by
    show up2 (gb1 ν 0 a 1) 30 1 _ 34 i = _
    rw [up2_ne (by decide)])
  have c3 : cnt (gb1 ν 0 a 1) 31 10 = cnt ν 31 10 - 1 := by
    have := cnt_dec (ν := ν) (L := 31) (a := a) (m := 10) h1
    rw [if_pos (by omega)] at this
    exact this
  have c4 : 1 ≤ cnt ν 31 10 := by
    have := cnt_mono (ν := ν) (L := 31) (show a + 1 ≤ 10 by omega)
    rw [cnt_succ] at this
    have e : ν (31 + 3) a = ν 34 a := rfl
    omega
  have e1 : gbM ν 0 a 1 30 1 = srF (gb1 ν 0 a 1) 0 (ν 0 6) := by
    unfold gbM gb2
    split
    · exact up2_at _ _ _ _
    · rw [up2_ne2 (by decide)]; exact up2_at _ _ _ _
  have e2 : gbM ν 0 a 1 30 2 = ν 30 2 := by
    unfold gbM gb2 gb1
    split
    · rw [up2_ne2 (by decide), up2_ne (by decide)]
    · rw [up2_ne2 (by decide), up2_ne2 (by decide), up2_ne (by decide)]
  have e3 : gbM ν 0 a 1 30 3 = if ν 30 3 ≤ gbG ν 0 a 1 then ν 30 3 else gbG ν 0 a 1 := by
    show (if ν 30 3 ≤ gbG ν 0 a 1 then gb2 ν 0 a 1 else up2 (gb2 ν 0 a 1) 30 3 (gbG ν 0 a 1)) 30 3 = _
    split
    · unfold gb2 gb1; rw [up2_ne2 (by decide), up2_ne (by decide)]
    · exact up2_at _ _ _ _
  have e4 : gbR ν 0 a 1 = if ν 30 3 ≤ gbG ν 0 a 1 then 0 else ν 30 3 - gbG ν 0 a 1 := rfl
  refine ⟨⟨w3, ?_, ?_, fun i hi h10 => ?_, by rw [e2, ef], fun h0 => ?_⟩, ?_, by rw [c1, c3]; omega, fun k hk => ?_⟩
  · rw [off2' 0 (by decide) (by decide), e5]
  · rw [off2' 0 (by decide) (by decide), e7]
  · rw [o34, va_up_ne _ _ (by omega)]; exact hz i hi h10
  · have z1 : cnt (gb1 ν 0 a 1) (31 + 5 * 0) 10 = 0 := by rw [c1] at h0; exact h0
    have z2 : gbG ν 0 a 1 = 0 := gd_zero (by rw [c1] at h0; show cnt (gb2 ν 0 a 1) 31 10 = 0; rw [c2]; exact h0)
    rw [e1, srF_zero z1, e3, z2]
    refine ⟨?_, rfl⟩
    split <;> omega
  · rw [e3, e4]
    split <;> omega
  · rw [e1] at hk
    have := srF_sub _ hk
    have e : gb1 ν 0 a 1 (30 + 5 * 0) = ν 30 := up2_ne (by decide)
    rw [e] at this
    exact this
/-- some article of the order has a piece -/
theorem cnt_some {ν : Mm} {many : Nat} (hz : ∀ i, many ≤ i → i < 10 → ν 34 i = 0) (h : 0 < cnt ν 31 10) : ∃ i, i < many ∧ 1 ≤ ν 34 i := by
  refine Classical.byContradiction fun hn => ?_
  have : cnt ν 31 10 = 0 := by
    have h0 : ∀ i, i < 10 → ν (31 + 3) i = 0 := fun i hi => by
      by_cases e : many ≤ i
      · exact hz i e hi
      · have : ¬ 1 ≤ ν 34 i := fun q => hn ⟨i, by omega, q⟩
        have e : ν (31 + 3) i = ν 34 i := rfl
        omega
    have key : ∀ m, m ≤ 10 → cnt ν 31 m = 0 := fun m => by
      induction m with
      | zero => intro _; rfl
      | succ m ih => intro hm; rw [cnt_succ, ih (by omega), h0 m (by omega)]
    exact key 10 (Nat.le_refl _)
  omega
/-- no bit of x stands outside y -/
theorem mask0 {x y : Nat} (hs : ∀ k, bt x k = 1 → bt y k = 1) : nI x &&& (nI y ^^^ (-1)) = 0 := by
  apply Int32.toBitVec_inj.mp
  rw [Int32.toBitVec_and, Int32.toBitVec_xor]
  show BitVec.ofNat 32 x &&& (BitVec.ofNat 32 y ^^^ 4294967295#32) = 0#32
  apply BitVec.eq_of_getLsbD_eq
  intro i hi
  have h1 : (4294967295#32).getLsbD i = true := by
    have : ∀ i : Fin 32, (4294967295#32).getLsbD i.val = true := by decide +kernel
    exact this ⟨i, hi⟩
  rw [BitVec.getLsbD_and, BitVec.getLsbD_xor, h1, BitVec.getLsbD_ofNat, BitVec.getLsbD_ofNat]
  have h2 := hs i
  rw [bt_tb, bt_tb] at h2
  simp only [BitVec.getLsbD_zero]
  cases hx : x.testBit i
  · simp
  · simp [h2 hx]
end
section
/-! ===== the law behind its build ===== -/
theorem bOK.dsk {m c : Nat} {ν μ : Mm} (h : bOK m c ν) (hd : dsk ν μ) : bOK m c μ := ⟨hd.WD h.1, by rw [hd.d]; exact h.2.1, by rw [hd.d]; exact h.2.2.1, by rw [hd.d]; exact h.2.2.2.1, fun i hi => by rw [hd 4 (by omega)]; exact h.2.2.2.2 i hi⟩
theorem oOK.dsk {m fe : Nat} {ν μ : Mm} (h : oOK m fe ν) (hd : dsk ν μ) : oOK m fe μ := ⟨hd.WD h.1, by rw [hd.d]; exact h.2.1, by rw [hd.d]; exact h.2.2.1, fun i hi h10 => by rw [hd 34 (by omega)]; exact h.2.2.2.1 i hi h10, by rw [hd 30 (by omega)]; exact h.2.2.2.2.1, fun h0 => by rw [hd 30 (by omega)]; exact h.2.2.2.2.2 (by rw [← hd.cnt (lotB_o (k := 0) (by decide)) 10]; exact h0)⟩
theorem toT_eq (ν : Mm) (st : Nat) : toT ν st = gdF ν 1 st + feF ν st (gdF ν 1 st) := rfl
theorem dsk.toT {ν μ : Mm} (h : dsk ν μ) (st : Nat) : toT μ st = toT ν st := by rw [toT_eq, toT_eq, h.gdF lotB_1, h.feF]
theorem oOK.b {m fe : Nat} {ν : Mm} (h : oOK m fe ν) : ν 30 1 < 256 ∧ ν 30 2 ≤ 10000 ∧ ν 30 3 ≤ 600000 ∧ cnt ν 31 10 ≤ 60 := ⟨(h.1.2.2.1 0 (by decide)).1, (h.1.2.2.1 0 (by decide)).2.1, (h.1.2.2.1 0 (by decide)).2.2, h.1.n60 (lotB_o (k := 0) (by decide))⟩
theorem cA0 (m a : Nat) : cntA m a 0 = m := (va_up_ne _ _ (by decide)).trans (va_up_self _ _ _)
theorem cA1 (m a : Nat) : cntA m a 1 = a := va_up_self _ _ _
set_option maxHeartbeats 8000000 in
set_option maxRecDepth 100000 in
theorem t_306 {p : Program} {l : Launch} {e : Env} {s : State} {m : MethodId} {args : Array Value} {below : List Frame} {meth : Method} {c : Code} {Q : State → Prop} {G : dG} {b C many all : Nat} (X : dC p s m args c code 17 RL G) (hX : hasX b s) (hb : b < G.2.2) (hm1 : 1 ≤ many) (hm5 : many ≤ 5) (ha5 : all ≤ 5) (hfin : ∀ (pc : Nat) (H : Heap) (ls : Array Slot) (locs : List Loc), decode code pc = .ok (.ireturn, 1) → pS G s.heap H locs → W p l e room_1 s m args below meth c H locs 600086 7301442 Q (F0 m pc ls [.int (nI 1)])) : ∀ (k time back fee goods : Nat) (ν : Mm), time + k ≤ 60 → oOK many fee ν → cnt ν 31 10 = k → back + ν 30 3 = goods → goods ≤ 600000 → ∀ (ls : Array Slot) (H : Heap) (locs : List Loc), xM G ν [(C, aI G 2 (cntA many all))] H → pS G s.heap H locs → lv_has ls 17 [(12, .int (nI time)), (11, .int (nI k)), (10, .int (nI back)), (9, .int (nI fee)), (8, .int (nI goods)), (4, .ref C), (1, .ref (ra G 0)), (0, .ref b)] → W p l e room_1 s m args below meth c H locs 600086 7301442 Q (F0 m 306 ls []) := by
  intro k
  induction k with
  | zero =>
    intro time back fee goods ν ht hO hc hbk hg ls H locs hM hS hl
    have hz := hO.2.2.2.2.2 hc
    have hf := hO.2.2.2.2.1
    have hp := pin_cnt (cs := 255) hc
    have hbd := hO.b
    refine lv_iload X.1 X.2.1 dL_law_306 (lv_at hl 1 rfl) ?_
    refine tn_le0 (tgt := 459) X dL_law_308 (by decide) (by omega) (fun h308 => ?_) (fun h308 => ?_)
    · refine lv_iload X.1 X.2.1 dL_law_459 (lv_at hl 2 rfl) ?_
      refine lv_iload X.1 X.2.1 dL_law_461 (lv_at hl 4 rfl) ?_
      refine tn_ne (tgt := 508) X dL_law_463 (by decide) (by omega) (by omega) (fun h463 => ?_) (fun h463 => ?_)
      · exfalso; omega
      · refine lv_aload_n X.1 X.2.1 dL_law_466 rfl (lv_at hl 6 rfl) ?_
        refine tn_ic (v := 0) X dL_law_467 (by decide) ?_
        refine tn_ic (v := 0) X dL_law_468 (by decide) ?_
        refine kLD (As := [_, _]) X hM hS hl.1 (c_X5_order hO.1 (by rw [hO.2.2.1]; decide) (by decide)) rfl kl_L_89 mf_X5_order ⟨Nat.le_of_ble_eq_true rfl, Nat.le_of_ble_eq_true rfl⟩ ⟨Nat.le_refl _, Nat.le_refl _⟩ rfl (Nat.le_of_ble_eq_true rfl) dL_law_469 (fun r469 ν469 H locs hp469 hM hS => ?_)
        obtain ⟨rfl, e469⟩ := hp469
        replace e469 := e469.symm
        subst e469
        refine tn_as (show _ = 0 from hz.1) ?_
        refine tn_ne0 (tgt := 508) X dL_law_472 (by decide) (by omega) (fun h472 => ?_) (fun h472 => ?_)
        · exact absurd rfl h472
        · refine lv_aload_n X.1 X.2.1 dL_law_475 rfl (lv_at hl 6 rfl) ?_
          refine tn_ic (v := 0) X dL_law_476 (by decide) ?_
          refine tn_ic (v := 1) X dL_law_477 (by decide) ?_
          refine kLD (As := [_, _]) X hM hS hl.1 (c_X5_order hO.1 (by rw [hO.2.2.1]; decide) (by decide)) rfl kl_L_89 mf_X5_order ⟨Nat.le_of_ble_eq_true rfl, Nat.le_of_ble_eq_true rfl⟩ ⟨Nat.le_refl _, Nat.le_refl _⟩ rfl (Nat.le_of_ble_eq_true rfl) dL_law_478 (fun r478 ν478 H locs hp478 hM hS => ?_)
          obtain ⟨rfl, e478⟩ := hp478
          replace e478 := e478.symm
          subst e478
          refine tn_as (show _ = fee from hf) ?_
          refine lv_iload X.1 X.2.1 dL_law_481 (lv_at hl 3 rfl) ?_
          refine tn_ne (tgt := 508) X dL_law_483 (by decide) (by omega) (by omega) (fun h483 => ?_) (fun h483 => ?_)
          · exact absurd rfl h483
          · refine lv_aload_n X.1 X.2.1 dL_law_486 rfl (lv_at hl 6 rfl) ?_
            refine tn_ic (v := 0) X dL_law_487 (by decide) ?_
            refine tn_ic (v := 2) X dL_law_488 (by decide) ?_
            refine kLD (As := [_, _]) X hM hS hl.1 (c_X5_order hO.1 (by rw [hO.2.2.1]; decide) (by decide)) rfl kl_L_89 mf_X5_order ⟨Nat.le_of_ble_eq_true rfl, Nat.le_of_ble_eq_true rfl⟩ ⟨Nat.le_refl _, Nat.le_refl _⟩ rfl (Nat.le_of_ble_eq_true rfl) dL_law_489 (fun r489 ν489 H locs hp489 hM hS => ?_)
            obtain ⟨rfl, e489⟩ := hp489
            replace e489 := e489.symm
            subst e489
            refine tn_as (show _ = 0 from hz.2) ?_
            refine tn_ne0 (tgt := 508) X dL_law_492 (by decide) (by omega) (fun h492 => ?_) (fun h492 => ?_)
            · exact absurd rfl h492
            · refine lv_aload_n X.1 X.2.1 dL_law_495 rfl (lv_at hl 6 rfl) ?_
              refine tn_ic (v := 0) X dL_law_496 (by decide) ?_
              refine tn_ic (v := 4) X dL_law_497 (by decide) ?_
              refine kLD (As := [_, _]) X hM hS hl.1 (c_X5_order hO.1 (by rw [hO.2.2.1]; decide) (by decide)) rfl kl_L_89 mf_X5_order ⟨Nat.le_of_ble_eq_true rfl, Nat.le_of_ble_eq_true rfl⟩ ⟨Nat.le_refl _, Nat.le_refl _⟩ rfl (Nat.le_of_ble_eq_true rfl) dL_law_498 (fun r498 ν498 H locs hp498 hM hS => ?_)
              obtain ⟨rfl, e498⟩ := hp498
              replace e498 := e498.symm
              subst e498
              refine tn_as (show _ = 0 from hp) ?_
              refine tn_ne0 (tgt := 508) X dL_law_501 (by decide) (by omega) (fun h501 => ?_) (fun h501 => ?_)
              · exact absurd rfl h501
              · refine tn_ic (v := 1) X dL_law_504 (by decide) ?_
                refine lv_goto (tgt := 509) X.1 X.2.1 dL_law_505 (by decide) ?_
                exact hfin 509 H ls locs dL_law_509 hS
    · exfalso; omega
  | succ k ih =>
    intro time back fee goods ν ht hO hc hbk hg ls H locs hM hS hl
    have hbd := hO.b
    obtain ⟨i0, hi0, hi1⟩ := cnt_some hO.2.2.2.1 (by omega)
    have K364 : ∀ (a : Nat), a < many → 1 ≤ ν 34 a → ∀ (ls : Array Slot) (H : Heap) (locs : List Loc), xM G ν [(C, aI G 2 (cntA many all))] H → pS G s.heap H locs → lv_has ls 17 [(13, .int (nI a)), (12, .int (nI time)), (11, .int (nI (k + 1))), (10, .int (nI back)), (9, .int (nI fee)), (8, .int (nI goods)), (4, .ref C), (1, .ref (ra G 0)), (0, .ref b)] → W p l e room_1 s m args below meth c H locs 600086 7301442 Q (F0 m 364 ls []) := by
      intro a ha hna ls H locs hM hS hl
      obtain ⟨hG1, hG2, hG3, hG4⟩ := gb_oOK hO ha hna
      have hGk : cnt (gbM ν 0 a 1) (31 + 5 * 0) 10 = k := by show cnt (gbM ν 0 a 1) 31 10 = k; omega
      refine lv_aload_n X.1 X.2.1 dL_law_364 rfl (lv_at hl 7 rfl) ?_
      refine tn_ic (v := 0) X dL_law_365 (by decide) ?_
      refine tn_ic (v := 0) X dL_law_366 (by decide) ?_
      refine kLD (As := [_, _]) X hM hS hl.1 (c_X5_order hO.1 (by rw [hO.2.2.1]; decide) (by decide)) rfl kl_L_89 mf_X5_order ⟨Nat.le_of_ble_eq_true rfl, Nat.le_of_ble_eq_true rfl⟩ ⟨Nat.le_refl _, Nat.le_refl _⟩ rfl (Nat.le_of_ble_eq_true rfl) dL_law_367 (fun r367 ν367 H locs hp367 hM hS => ?_)
      obtain ⟨rfl, e367⟩ := hp367
      replace e367 := e367.symm
      subst e367
      refine tn_as (show _ = ν 30 3 from rfl) ?_
      refine lv_istore X.1 X.2.1 dL_law_370 hl (by decide) rfl (fun ls hl => ?_)
      replace hl : lv_has ls 17 [(14, _), (13, _), (12, _), (11, _), (10, _), (9, _), (8, _), (4, _), (1, _), (0, _)] := hl
      refine lv_aload_n X.1 X.2.1 dL_law_372 rfl (lv_at hl 8 rfl) ?_
      refine tn_ic (v := 0) X dL_law_373 (by decide) ?_
      refine tn_ic (v := 2) X dL_law_374 (by decide) ?_
      refine kLD (As := [_, _]) X hM hS hl.1 (c_X5_order hO.1 (by rw [hO.2.2.1]; decide) (by decide)) rfl kl_L_89 mf_X5_order ⟨Nat.le_of_ble_eq_true rfl, Nat.le_of_ble_eq_true rfl⟩ ⟨Nat.le_refl _, Nat.le_refl _⟩ rfl (Nat.le_of_ble_eq_true rfl) dL_law_375 (fun r375 ν375 H locs hp375 hM hS => ?_)
      obtain ⟨rfl, e375⟩ := hp375
      replace e375 := e375.symm
      subst e375
      refine tn_as (show _ = ν 30 1 from rfl) ?_
      refine lv_istore X.1 X.2.1 dL_law_378 hl (by decide) rfl (fun ls hl => ?_)
      replace hl : lv_has ls 17 [(15, _), (14, _), (13, _), (12, _), (11, _), (10, _), (9, _), (8, _), (4, _), (1, _), (0, _)] := hl
      refine lv_aload_n X.1 X.2.1 dL_law_380 rfl (lv_at hl 9 rfl) ?_
      refine tn_ic (v := 0) X dL_law_381 (by decide) ?_
      refine lv_iload X.1 X.2.1 dL_law_382 (lv_at hl 2 rfl) ?_
      refine tn_ic (v := 1) X dL_law_384 (by decide) ?_
      refine kLD (As := [_, _, _]) X hM hS hl.1 (c_X5_giveBack hO.1 (by rw [hO.2.2.1]; decide) (by rw [hO.2.1]; exact ha) (Nat.le_refl 1) hna) rfl kl_L_95 mf_X5_giveBack ⟨Nat.le_of_ble_eq_true rfl, Nat.le_of_ble_eq_true rfl⟩ ⟨Nat.le_refl _, Nat.le_refl _⟩ rfl (Nat.le_of_ble_eq_true rfl) dL_law_385 (fun r385 ν385 H locs hp385 hM hS => ?_)
      obtain ⟨rfl, hd385⟩ := hp385
      have hP := hG1.dsk hd385
      refine lv_istore X.1 X.2.1 dL_law_388 hl (by decide) rfl (fun ls hl => ?_)
      replace hl : lv_has ls 17 [(16, _), (15, _), (14, _), (13, _), (12, _), (11, _), (10, _), (9, _), (8, _), (4, _), (1, _), (0, _)] := hl
      refine lv_iload X.1 X.2.1 dL_law_390 (lv_at hl 6 rfl) ?_
      refine lv_iload X.1 X.2.1 dL_law_392 (lv_at hl 0 rfl) ?_
      refine tn_add X dL_law_394 ?_
      refine lv_istore X.1 X.2.1 dL_law_395 hl (by decide) rfl (fun ls hl => ?_)
      replace hl : lv_has ls 17 [(10, _), (16, _), (15, _), (14, _), (13, _), (12, _), (11, _), (9, _), (8, _), (4, _), (1, _), (0, _)] := hl
      refine tn_dec (k := 6) X dL_law_397 hl rfl (by omega) (by decide) rfl (fun ls hl => ?_)
      replace hl : lv_has ls 17 [(11, _), (10, _), (16, _), (15, _), (14, _), (13, _), (12, _), (9, _), (8, _), (4, _), (1, _), (0, _)] := hl
      refine lv_iload X.1 X.2.1 dL_law_400 (lv_at hl 2 rfl) ?_
      refine tn_lt0 (tgt := 451) X dL_law_402 (by decide) (by omega) ?_
      refine lv_iload X.1 X.2.1 dL_law_405 (lv_at hl 2 rfl) ?_
      refine lv_iload X.1 X.2.1 dL_law_407 (lv_at hl 4 rfl) ?_
      refine tn_gt (tgt := 451) X dL_law_409 (by decide) (by omega) (by omega) (fun h409 => ?_) (fun h409 => ?_)
      · exfalso; omega
      · refine lv_aload_n X.1 X.2.1 dL_law_412 rfl (lv_at hl 10 rfl) ?_
        refine tn_ic (v := 0) X dL_law_413 (by decide) ?_
        refine tn_ic (v := 0) X dL_law_414 (by decide) ?_
        refine kLD (As := [_, _]) X hM hS hl.1 (c_X5_order hP.1 (by rw [hP.2.2.1]; decide) (by decide)) rfl kl_L_89 mf_X5_order ⟨Nat.le_of_ble_eq_true rfl, Nat.le_of_ble_eq_true rfl⟩ ⟨Nat.le_refl _, Nat.le_refl _⟩ rfl (Nat.le_of_ble_eq_true rfl) dL_law_415 (fun r415 ν415 H locs hp415 hM hS => ?_)
        obtain ⟨rfl, e415⟩ := hp415
        replace e415 := e415.symm
        subst e415
        refine tn_as (show _ = gbM ν 0 a 1 30 3 from congrFun (hd385 30 (by omega)) 3) ?_
        refine lv_iload X.1 X.2.1 dL_law_418 (lv_at hl 4 rfl) ?_
        refine lv_iload X.1 X.2.1 dL_law_420 (lv_at hl 2 rfl) ?_
        refine tn_sub X dL_law_422 (by omega) ?_
        refine tn_ne (tgt := 451) X dL_law_423 (by decide) (by omega) (by omega) (fun h423 => ?_) (fun h423 => ?_)
        · exfalso; omega
        · refine lv_aload_n X.1 X.2.1 dL_law_426 rfl (lv_at hl 10 rfl) ?_
          refine tn_ic (v := 0) X dL_law_427 (by decide) ?_
          refine tn_ic (v := 3) X dL_law_428 (by decide) ?_
          refine kLD (As := [_, _]) X hM hS hl.1 (c_X5_order hP.1 (by rw [hP.2.2.1]; decide) (by decide)) rfl kl_L_89 mf_X5_order ⟨Nat.le_of_ble_eq_true rfl, Nat.le_of_ble_eq_true rfl⟩ ⟨Nat.le_refl _, Nat.le_refl _⟩ rfl (Nat.le_of_ble_eq_true rfl) dL_law_429 (fun r429 ν429 H locs hp429 hM hS => ?_)
          obtain ⟨rfl, e429⟩ := hp429
          replace e429 := e429.symm
          subst e429
          refine tn_as (show _ = k from (hd385.cnt (lotB_o (k := 0) (by decide)) 10).trans hGk) ?_
          refine lv_iload X.1 X.2.1 dL_law_432 (lv_at hl 0 rfl) ?_
          refine tn_ne (tgt := 451) X dL_law_434 (by decide) (by omega) (by omega) (fun h434 => ?_) (fun h434 => ?_)
          · exfalso; omega
          · refine lv_aload_n X.1 X.2.1 dL_law_437 rfl (lv_at hl 10 rfl) ?_
            refine tn_ic (v := 0) X dL_law_438 (by decide) ?_
            refine tn_ic (v := 2) X dL_law_439 (by decide) ?_
            refine kLD (As := [_, _]) X hM hS hl.1 (c_X5_order hP.1 (by rw [hP.2.2.1]; decide) (by decide)) rfl kl_L_89 mf_X5_order ⟨Nat.le_of_ble_eq_true rfl, Nat.le_of_ble_eq_true rfl⟩ ⟨Nat.le_refl _, Nat.le_refl _⟩ rfl (Nat.le_of_ble_eq_true rfl) dL_law_440 (fun r440 ν440 H locs hp440 hM hS => ?_)
            obtain ⟨rfl, e440⟩ := hp440
            replace e440 := e440.symm
            subst e440
            refine tn_as (show _ = gbM ν 0 a 1 30 1 from congrFun (hd385 30 (by omega)) 1) ?_
            refine lv_iload X.1 X.2.1 dL_law_443 (lv_at hl 3 rfl) ?_
            refine lv_iconst (v := -1) X.1 X.2.1 dL_law_445 (by decide) ?_
            refine lv_ixor X.1 X.2.1 dL_law_446 ?_
            refine lv_iand X.1 X.2.1 dL_law_447 ?_
            rw [mask0 hG4]
            refine lv_if_eq (tgt := 453) X.1 X.2.1 dL_law_448 (by decide) (fun _ => ?_) (fun q => absurd rfl q)
            refine tn_inc (k := 6) (w := 1) X dL_law_453 hl rfl (by decide) (by decide) rfl (fun ls hl => ?_)
            replace hl : lv_has ls 17 [(12, _), (11, _), (10, _), (16, _), (15, _), (14, _), (13, _), (9, _), (8, _), (4, _), (1, _), (0, _)] := hl
            refine lv_goto (tgt := 306) X.1 X.2.1 dL_law_456 (by decide) ?_
            exact ih (time + 1) (back + gbR ν 0 a 1) fee goods _ (by omega) hP ((hd385.cnt (lotB_o (k := 0) (by decide)) 10).trans hGk) (by rw [hd385 30 (by omega)]; omega) hg ls H locs hM hS (lv_sub hl [0, 1, 2, 7, 8, 9, 10, 11] rfl)
    have W340 : ∀ (n a : Nat), a < many → (a + n) % many = i0 → ∀ (ls : Array Slot) (H : Heap) (locs : List Loc), xM G ν [(C, aI G 2 (cntA many all))] H → pS G s.heap H locs → lv_has ls 17 [(13, .int (nI a)), (12, .int (nI time)), (11, .int (nI (k + 1))), (10, .int (nI back)), (9, .int (nI fee)), (8, .int (nI goods)), (4, .ref C), (1, .ref (ra G 0)), (0, .ref b)] → W p l e room_1 s m args below meth c H locs 600086 7301442 Q (F0 m 340 ls []) := by
      intro n
      induction n with
      | zero =>
        intro a ha hn ls H locs hM hS hl
        have ea : a = i0 := by rw [Nat.add_zero, Nat.mod_eq_of_lt ha] at hn; exact hn
        refine lv_aload_n X.1 X.2.1 dL_law_340 rfl (lv_at hl 7 rfl) ?_
        refine tn_ic (v := 0) X dL_law_341 (by decide) ?_
        refine lv_iload X.1 X.2.1 dL_law_342 (lv_at hl 0 rfl) ?_
        refine kLD (As := [_, _]) X hM hS hl.1 (c_X5_pieces hO.1 (by rw [hO.2.2.1]; decide) (by rw [hO.2.1]; exact ha)) rfl kl_L_92 mf_X5_pieces ⟨Nat.le_of_ble_eq_true rfl, Nat.le_of_ble_eq_true rfl⟩ ⟨Nat.le_refl _, Nat.le_refl _⟩ rfl (Nat.le_of_ble_eq_true rfl) dL_law_344 (fun r344 ν344 H locs hp344 hM hS => ?_)
        obtain ⟨rfl, e344⟩ := hp344
        replace e344 := e344.symm
        subst e344
        refine tn_as (show _ = ν 34 a from rfl) ?_
        refine tn_ne0 (tgt := 364) X dL_law_347 (by decide) (by have := hO.1.c6 (lotB_o (k := 0) (by decide)) a (by omega); exact Nat.lt_of_le_of_lt this (by decide)) (fun h347 => ?_) (fun h347 => ?_)
        · exact K364 a ha (by omega) ls H locs hM hS (lv_sub hl [0, 1, 2, 3, 4, 5, 6, 7, 8] rfl)
        · exfalso; rw [ea] at h347; omega
      | succ n ihn =>
        intro a ha hn ls H locs hM hS hl
        refine lv_aload_n X.1 X.2.1 dL_law_340 rfl (lv_at hl 7 rfl) ?_
        refine tn_ic (v := 0) X dL_law_341 (by decide) ?_
        refine lv_iload X.1 X.2.1 dL_law_342 (lv_at hl 0 rfl) ?_
        refine kLD (As := [_, _]) X hM hS hl.1 (c_X5_pieces hO.1 (by rw [hO.2.2.1]; decide) (by rw [hO.2.1]; exact ha)) rfl kl_L_92 mf_X5_pieces ⟨Nat.le_of_ble_eq_true rfl, Nat.le_of_ble_eq_true rfl⟩ ⟨Nat.le_refl _, Nat.le_refl _⟩ rfl (Nat.le_of_ble_eq_true rfl) dL_law_344 (fun r344 ν344 H locs hp344 hM hS => ?_)
        obtain ⟨rfl, e344⟩ := hp344
        replace e344 := e344.symm
        subst e344
        refine tn_as (show _ = ν 34 a from rfl) ?_
        refine tn_ne0 (tgt := 364) X dL_law_347 (by decide) (by have := hO.1.c6 (lotB_o (k := 0) (by decide)) a (by omega); exact Nat.lt_of_le_of_lt this (by decide)) (fun h347 => ?_) (fun h347 => ?_)
        · exact K364 a ha (by omega) ls H locs hM hS (lv_sub hl [0, 1, 2, 3, 4, 5, 6, 7, 8] rfl)
        · refine lv_iload X.1 X.2.1 dL_law_350 (lv_at hl 0 rfl) ?_
          refine tn_ic (v := 1) X dL_law_352 (by decide) ?_
          refine tn_add X dL_law_353 ?_
          refine lv_aload X.1 X.2.1 dL_law_354 (lv_at hl 6 rfl) ?_
          refine tn_ic (v := 0) X dL_law_356 (by decide) ?_
          refine x_iald (q := 0) X hM rfl (by omega) (by decide) dL_law_357 ?_
          refine tn_as (cA0 many all) ?_
          refine tn_rem X dL_law_358 (by omega) (by omega) (by omega) ?_
          refine lv_istore X.1 X.2.1 dL_law_359 hl (by decide) rfl (fun ls hl => ?_)
          replace hl : lv_has ls 17 [(13, _), (12, _), (11, _), (10, _), (9, _), (8, _), (4, _), (1, _), (0, _)] := hl
          refine lv_goto (tgt := 340) X.1 X.2.1 dL_law_361 (by decide) ?_
          exact ihn ((a + 1) % many) (Nat.mod_lt _ (by omega)) (by rw [Nat.mod_add_mod, ← hn]; congr 1; omega) ls H locs hM hS (lv_sub hl [0, 1, 2, 3, 4, 5, 6, 7, 8] rfl)
    refine lv_iload X.1 X.2.1 dL_law_306 (lv_at hl 1 rfl) ?_
    refine tn_le0 (tgt := 459) X dL_law_308 (by decide) (by omega) (fun h308 => ?_) (fun h308 => ?_)
    · exfalso; omega
    · refine lv_aload_n X.1 X.2.1 dL_law_311 rfl (lv_at hl 7 rfl) ?_
      refine tn_bi (v := 9) X dL_law_312 (by decide) ?_
      refine lv_iload X.1 X.2.1 dL_law_314 (lv_at hl 0 rfl) ?_
      refine tn_bi (v := 7) X dL_law_316 (by decide) ?_
      refine tn_rem X dL_law_318 (by omega) (by omega) (by omega) ?_
      refine tn_add X dL_law_319 ?_
      refine kLS (As := [_, _]) hasX.calling (hX.go hb hS) X hM hS hl.1 (c_L_cell (k := _) (by omega)) kl_L_9 mf_L_cell ⟨Nat.le_of_ble_eq_true rfl, Nat.le_of_ble_eq_true rfl⟩ ⟨Nat.le_refl _, Nat.le_refl _⟩ rfl (Nat.le_of_ble_eq_true rfl) dL_law_320 (fun z320 H locs _ hM hS _ _ => ?_)
      refine lv_iload X.1 X.2.1 dL_law_323 (lv_at hl 0 rfl) ?_
      refine tn_bi (v := 7) X dL_law_325 (by decide) ?_
      refine tn_div X dL_law_327 (by omega) (by omega) (by omega) ?_
      refine tn_ic (v := 3) X dL_law_328 (by decide) ?_
      refine tn_mul X dL_law_329 ?_
      refine tn_sar X dL_law_330 (fun z330 => ?_)
      refine lv_aload X.1 X.2.1 dL_law_331 (lv_at hl 5 rfl) ?_
      refine tn_ic (v := 0) X dL_law_333 (by decide) ?_
      refine x_iald (q := 0) X hM rfl (by omega) (by decide) dL_law_334 ?_
      refine tn_as (cA0 many all) ?_
      refine kLS (As := [_, _]) (fun _ _ _ _ h => h) (fun _ _ _ => trivial) X hM hS hl.1 (c_L_below (n := _) (by omega) (by omega)) kl_L_15 mf_L_below ⟨Nat.le_of_ble_eq_true rfl, Nat.le_of_ble_eq_true rfl⟩ ⟨Nat.le_refl _, Nat.le_refl _⟩ rfl (Nat.le_of_ble_eq_true rfl) dL_law_335 (fun z335 H locs hz335 hM hS _ _ => ?_)
      obtain ⟨q335, hq335, rfl⟩ := hz335
      refine lv_istore X.1 X.2.1 dL_law_338 hl (by decide) rfl (fun ls hl => ?_)
      replace hl : lv_has ls 17 [(13, _), (12, _), (11, _), (10, _), (9, _), (8, _), (4, _), (1, _), (0, _)] := hl
      exact W340 (i0 + many - q335) q335 hq335 (by rw [show q335 + (i0 + many - q335) = i0 + many by omega, Nat.add_mod_right, Nat.mod_eq_of_lt hi0]) ls H locs hM hS (lv_sub hl [0, 1, 2, 3, 4, 5, 6, 7, 8] rfl)
set_option maxHeartbeats 8000000 in
set_option maxRecDepth 100000 in
theorem t_68 {p : Program} {l : Launch} {e : Env} {s : State} {m : MethodId} {args : Array Value} {below : List Frame} {meth : Method} {c : Code} {Q : State → Prop} {G : dG} {b C many all : Nat} (X : dC p s m args c code 17 RL G) (hX : hasX b s) (hb : b < G.2.2) (hm1 : 1 ≤ many) (hm5 : many ≤ 5) (ha5 : all ≤ 5) (hfin : ∀ (pc : Nat) (H : Heap) (ls : Array Slot) (locs : List Loc), decode code pc = .ok (.ireturn, 1) → pS G s.heap H locs → W p l e room_1 s m args below meth c H locs 600086 7301442 Q (F0 m pc ls [.int (nI 1)])) : ∀ (σ : Mm), bOK many all σ → ∀ (ls : Array Slot) (H : Heap) (locs : List Loc), xM G σ [(C, aI G 2 (cntA many all))] H → pS G s.heap H locs → lv_has ls 17 [(4, .ref C), (1, .ref (ra G 0)), (0, .ref b)] → W p l e room_1 s m args below meth c H locs 600086 7301442 Q (F0 m 68 ls []) := by
  intro σ hB ls H locs hM hS hl
  have hW := hB.1
  have h06 : σ 0 6 = all := hB.2.2.1
  obtain ⟨hbal, hblt, hmin⟩ := srch_best hW 0
  rw [h06] at hblt hmin
  obtain ⟨bs, hbs⟩ : ∃ z, z = (srch σ 0).1 := ⟨_, rfl⟩
  rw [← hbs] at hbal hblt hmin
  have h32 : 2 ^ all ≤ 2 ^ 5 := Nat.pow_le_pow_right (by decide) ha5
  have h25 : (2 : Nat) ^ 5 = 32 := by decide
  have hpb := hW.pb lotB_1 255
  have hgb := gd_le_pin hW lotB_1 bs
  have hfb := feF_le hW bs (gdF σ 1 bs)
  have htb : toT σ bs = gdF σ 1 bs + feF σ bs (gdF σ 1 bs) := rfl
  have hal0 : al σ 0 = true := alF_zero σ _
  have T222 : ∀ (ν : Mm), dsk σ ν → pin σ 1 255 10 ≠ 0 → ∀ (ls : Array Slot) (H : Heap) (locs : List Loc), xM G ν [(C, aI G 2 (cntA many all))] H → pS G s.heap H locs → lv_has ls 17 [(7, .int (nI (pin σ 1 255 10))), (6, .int (nI (toT σ bs))), (5, .int (nI bs)), (4, .ref C), (1, .ref (ra G 0)), (0, .ref b)] → W p l e room_1 s m args below meth c H locs 600086 7301442 Q (F0 m 222 ls []) := by
    intro ν hD hv ls H locs hM hS hl
    have hc0 : cnt σ 1 10 ≠ 0 := fun q => hv (pin_cnt q)
    refine lv_aload_n X.1 X.2.1 dL_law_222 rfl (lv_at hl 4 rfl) ?_
    refine lv_iload X.1 X.2.1 dL_law_223 (lv_at hl 2 rfl) ?_
    refine kLD (As := [_]) X hM hS hl.1 (c_X5_goods (hD.WD hW) (by rw [hD.d, h06]; exact hblt) (by rw [hD.al]; exact hbal)) rfl kl_L_80 mf_X5_goods ⟨Nat.le_of_ble_eq_true rfl, Nat.le_of_ble_eq_true rfl⟩ ⟨Nat.le_refl _, Nat.le_refl _⟩ rfl (Nat.le_of_ble_eq_true rfl) dL_law_225 (fun r225 ν225 H locs hp225 hM hS => ?_)
    obtain ⟨e225, hd225⟩ := hp225
    refine tn_as (show r225 = gdF σ 1 bs from e225.trans (hD.gdF lotB_1 bs)) ?_
    replace hD := hD.trans hd225
    refine lv_istore X.1 X.2.1 dL_law_228 hl (by decide) rfl (fun ls hl => ?_)
    replace hl : lv_has ls 17 [(8, _), (7, _), (6, _), (5, _), (4, _), (1, _), (0, _)] := hl
    refine lv_iload X.1 X.2.1 dL_law_230 (lv_at hl 2 rfl) ?_
    refine lv_iload X.1 X.2.1 dL_law_232 (lv_at hl 0 rfl) ?_
    refine tn_sub X dL_law_234 (by omega) ?_
    refine tn_as (show toT σ bs - gdF σ 1 bs = feF σ bs (gdF σ 1 bs) by omega) ?_
    refine lv_istore X.1 X.2.1 dL_law_235 hl (by decide) rfl (fun ls hl => ?_)
    replace hl : lv_has ls 17 [(9, _), (8, _), (7, _), (6, _), (5, _), (4, _), (1, _), (0, _)] := hl
    refine lv_aload_n X.1 X.2.1 dL_law_237 rfl (lv_at hl 6 rfl) ?_
    refine lv_iload X.1 X.2.1 dL_law_238 (lv_at hl 4 rfl) ?_
    refine kLD (As := [_]) X hM hS hl.1 (c_X5_buy (hD.WD hW) (by rw [hD.d, h06]; exact hblt) (by rw [hD.al]; exact hbal) (by rw [hD.cnt lotB_1]; exact hc0) (by rw [hD.d, hB.2.2.2.1]; decide)) rfl kl_L_86 mf_X5_buy ⟨Nat.le_of_ble_eq_true rfl, Nat.le_of_ble_eq_true rfl⟩ ⟨Nat.le_refl _, Nat.le_refl _⟩ rfl (Nat.le_of_ble_eq_true rfl) dL_law_240 (fun r240 ν240 H locs hp240 hM hS => ?_)
    obtain ⟨e240, hd240⟩ := hp240
    refine tn_as (show r240 = 0 from e240.trans (by rw [hD.d, hB.2.2.2.1])) ?_
    obtain ⟨hO0, hO3, hO1, hOc, hOp⟩ := buy_oOK (hB.dsk hD) (st := bs) (by omega) (by rw [hD.cnt lotB_1]; exact hc0)
    rw [hD.gdF lotB_1, hD.feF] at hO0
    have hO := hO0.dsk hd240
    have f0 : ν240 30 3 = gdF σ 1 bs := by rw [hd240 30 (by omega), hO3, hD.gdF lotB_1]
    have f1 := hO.2.2.2.2.1
    have f2 : ν240 30 1 = bs := by rw [hd240 30 (by omega), hO1]
    have f3 : cnt ν240 31 10 = cnt σ 1 10 := by rw [hd240.cnt (lotB_o (k := 0) (by decide)) 10]; exact hOc.trans (hD.cnt lotB_1 10)
    have f4 : pin ν240 31 255 10 = pin σ 1 255 10 := by rw [hd240.pin (lotB_o (k := 0) (by decide)) 255 10]; exact hOp.trans (hD.pin lotB_1 255 10)
    have hbd := hO.b
    refine tn_ne0 (tgt := 290) X dL_law_243 (by decide) (by omega) (fun h243 => ?_) (fun h243 => ?_)
    · exact absurd rfl h243
    · refine lv_aload_n X.1 X.2.1 dL_law_246 rfl (lv_at hl 6 rfl) ?_
      refine tn_ic (v := 0) X dL_law_247 (by decide) ?_
      refine tn_ic (v := 0) X dL_law_248 (by decide) ?_
      refine kLD (As := [_, _]) X hM hS hl.1 (c_X5_order hO.1 (by rw [hO.2.2.1]; decide) (by decide)) rfl kl_L_89 mf_X5_order ⟨Nat.le_of_ble_eq_true rfl, Nat.le_of_ble_eq_true rfl⟩ ⟨Nat.le_refl _, Nat.le_refl _⟩ rfl (Nat.le_of_ble_eq_true rfl) dL_law_249 (fun r249 ν249 H locs hp249 hM hS => ?_)
      obtain ⟨rfl, e249⟩ := hp249
      replace e249 := e249.symm
      subst e249
      refine tn_as (show _ = gdF σ 1 bs from f0) ?_
      refine lv_iload X.1 X.2.1 dL_law_252 (lv_at hl 1 rfl) ?_
      refine tn_ne (tgt := 290) X dL_law_254 (by decide) (by omega) (by omega) (fun h254 => ?_) (fun h254 => ?_)
      · exact absurd rfl h254
      · refine lv_aload_n X.1 X.2.1 dL_law_257 rfl (lv_at hl 6 rfl) ?_
        refine tn_ic (v := 0) X dL_law_258 (by decide) ?_
        refine tn_ic (v := 1) X dL_law_259 (by decide) ?_
        refine kLD (As := [_, _]) X hM hS hl.1 (c_X5_order hO.1 (by rw [hO.2.2.1]; decide) (by decide)) rfl kl_L_89 mf_X5_order ⟨Nat.le_of_ble_eq_true rfl, Nat.le_of_ble_eq_true rfl⟩ ⟨Nat.le_refl _, Nat.le_refl _⟩ rfl (Nat.le_of_ble_eq_true rfl) dL_law_260 (fun r260 ν260 H locs hp260 hM hS => ?_)
        obtain ⟨rfl, e260⟩ := hp260
        replace e260 := e260.symm
        subst e260
        refine tn_as (show _ = feF σ bs (gdF σ 1 bs) from f1) ?_
        refine lv_iload X.1 X.2.1 dL_law_263 (lv_at hl 0 rfl) ?_
        refine tn_ne (tgt := 290) X dL_law_265 (by decide) (by omega) (by omega) (fun h265 => ?_) (fun h265 => ?_)
        · exact absurd rfl h265
        · refine lv_aload_n X.1 X.2.1 dL_law_268 rfl (lv_at hl 6 rfl) ?_
          refine tn_ic (v := 0) X dL_law_269 (by decide) ?_
          refine tn_ic (v := 2) X dL_law_270 (by decide) ?_
          refine kLD (As := [_, _]) X hM hS hl.1 (c_X5_order hO.1 (by rw [hO.2.2.1]; decide) (by decide)) rfl kl_L_89 mf_X5_order ⟨Nat.le_of_ble_eq_true rfl, Nat.le_of_ble_eq_true rfl⟩ ⟨Nat.le_refl _, Nat.le_refl _⟩ rfl (Nat.le_of_ble_eq_true rfl) dL_law_271 (fun r271 ν271 H locs hp271 hM hS => ?_)
          obtain ⟨rfl, e271⟩ := hp271
          replace e271 := e271.symm
          subst e271
          refine tn_as (show _ = bs from f2) ?_
          refine lv_iload X.1 X.2.1 dL_law_274 (lv_at hl 4 rfl) ?_
          refine tn_ne (tgt := 290) X dL_law_276 (by decide) (by omega) (by omega) (fun h276 => ?_) (fun h276 => ?_)
          · exact absurd rfl h276
          · refine lv_aload_n X.1 X.2.1 dL_law_279 rfl (lv_at hl 6 rfl) ?_
            refine tn_ic (v := 0) X dL_law_280 (by decide) ?_
            refine tn_ic (v := 4) X dL_law_281 (by decide) ?_
            refine kLD (As := [_, _]) X hM hS hl.1 (c_X5_order hO.1 (by rw [hO.2.2.1]; decide) (by decide)) rfl kl_L_89 mf_X5_order ⟨Nat.le_of_ble_eq_true rfl, Nat.le_of_ble_eq_true rfl⟩ ⟨Nat.le_refl _, Nat.le_refl _⟩ rfl (Nat.le_of_ble_eq_true rfl) dL_law_282 (fun r282 ν282 H locs hp282 hM hS => ?_)
            obtain ⟨rfl, e282⟩ := hp282
            replace e282 := e282.symm
            subst e282
            refine tn_as (show _ = pin σ 1 255 10 from f4) ?_
            refine lv_iload X.1 X.2.1 dL_law_285 (lv_at hl 2 rfl) ?_
            refine tn_eq (tgt := 292) X dL_law_287 (by decide) (by omega) (by omega) (fun h287 => ?_) (fun h287 => ?_)
            · refine tn_ic (v := 0) X dL_law_292 (by decide) ?_
              refine lv_istore X.1 X.2.1 dL_law_293 hl (by decide) rfl (fun ls hl => ?_)
              replace hl : lv_has ls 17 [(10, _), (9, _), (8, _), (7, _), (6, _), (5, _), (4, _), (1, _), (0, _)] := hl
              refine lv_aload_n X.1 X.2.1 dL_law_295 rfl (lv_at hl 7 rfl) ?_
              refine tn_ic (v := 0) X dL_law_296 (by decide) ?_
              refine tn_ic (v := 3) X dL_law_297 (by decide) ?_
              refine kLD (As := [_, _]) X hM hS hl.1 (c_X5_order hO.1 (by rw [hO.2.2.1]; decide) (by decide)) rfl kl_L_89 mf_X5_order ⟨Nat.le_of_ble_eq_true rfl, Nat.le_of_ble_eq_true rfl⟩ ⟨Nat.le_refl _, Nat.le_refl _⟩ rfl (Nat.le_of_ble_eq_true rfl) dL_law_298 (fun r298 ν298 H locs hp298 hM hS => ?_)
              obtain ⟨rfl, e298⟩ := hp298
              replace e298 := e298.symm
              subst e298
              refine tn_as (show _ = cnt σ 1 10 from f3) ?_
              refine lv_istore X.1 X.2.1 dL_law_301 hl (by decide) rfl (fun ls hl => ?_)
              replace hl : lv_has ls 17 [(11, _), (10, _), (9, _), (8, _), (7, _), (6, _), (5, _), (4, _), (1, _), (0, _)] := hl
              refine tn_ic (v := 0) X dL_law_303 (by decide) ?_
              refine lv_istore X.1 X.2.1 dL_law_304 hl (by decide) rfl (fun ls hl => ?_)
              replace hl : lv_has ls 17 [(12, _), (11, _), (10, _), (9, _), (8, _), (7, _), (6, _), (5, _), (4, _), (1, _), (0, _)] := hl
              exact t_306 X hX hb hm1 hm5 ha5 hfin (cnt σ 1 10) 0 0 (feF σ bs (gdF σ 1 bs)) (gdF σ 1 bs) _ (by omega) hO f3 (by omega) (by omega) ls H locs hM hS (lv_sub hl [0, 1, 2, 3, 4, 8, 9, 10] rfl)
            · exact absurd rfl h287
  have L85 : ∀ (k T : Nat) (ν : Mm), T + k = 2 ^ all → dsk σ ν → ∀ (ls : Array Slot) (H : Heap) (locs : List Loc), xM G ν [(C, aI G 2 (cntA many all))] H → pS G s.heap H locs → lv_has ls 17 [(7, .int (nI T)), (6, .int (nI (toT σ bs))), (5, .int (nI bs)), (4, .ref C), (1, .ref (ra G 0)), (0, .ref b)] → W p l e room_1 s m args below meth c H locs 600086 7301442 Q (F0 m 85 ls []) := by
    intro k
    induction k with
    | zero =>
      intro T ν hk hD ls H locs hM hS hl
      have hm0 := hmin 0 (by omega) hal0
      unfold better at hm0
      have ht0 : toT σ 0 ≤ 610000 := toT_le hW 0
      refine lv_iload X.1 X.2.1 dL_law_85 (lv_at hl 0 rfl) ?_
      refine tn_ic (v := 1) X dL_law_87 (by decide) ?_
      refine lv_aload X.1 X.2.1 dL_law_88 (lv_at hl 3 rfl) ?_
      refine tn_ic (v := 1) X dL_law_90 (by decide) ?_
      refine x_iald (q := 0) X hM rfl (by omega) (by decide) dL_law_91 ?_
      refine tn_as (cA1 many all) ?_
      refine tn_shl1 X dL_law_92 (by omega) ?_
      refine tn_ge (tgt := 197) X dL_law_93 (by decide) (by omega) (by omega) (fun h93 => ?_) (fun h93 => ?_)
      · refine lv_iload X.1 X.2.1 dL_law_197 (lv_at hl 1 rfl) ?_
        refine lv_aload_n X.1 X.2.1 dL_law_199 rfl (lv_at hl 4 rfl) ?_
        refine tn_ic (v := 0) X dL_law_200 (by decide) ?_
        refine kLD (As := [_]) X hM hS hl.1 (c_X5_total (hD.WD hW) (by rw [hD.d, h06]; exact (by omega)) (by rw [hD.al]; exact hal0)) rfl kl_L_67 mf_X5_total ⟨Nat.le_of_ble_eq_true rfl, Nat.le_of_ble_eq_true rfl⟩ ⟨Nat.le_refl _, Nat.le_refl _⟩ rfl (Nat.le_of_ble_eq_true rfl) dL_law_201 (fun r201 ν201 H locs hp201 hM hS => ?_)
        obtain ⟨e201, hd201⟩ := hp201
        refine tn_as (show r201 = toT σ 0 from e201.trans (hD.toT 0)) ?_
        replace hD := hD.trans hd201
        refine tn_le (tgt := 209) X dL_law_204 (by decide) (by omega) (by omega) (fun h204 => ?_) (fun h204 => ?_)
        · refine lv_aload_n X.1 X.2.1 dL_law_209 rfl (lv_at hl 4 rfl) ?_
          refine kLD (As := []) X hM hS hl.1 (c_X5_value (hD.WD hW)) rfl kl_L_83 mf_X5_value ⟨Nat.le_of_ble_eq_true rfl, Nat.le_of_ble_eq_true rfl⟩ ⟨Nat.le_refl _, Nat.le_refl _⟩ rfl (Nat.le_of_ble_eq_true rfl) dL_law_210 (fun r210 ν210 H locs hp210 hM hS => ?_)
          obtain ⟨rfl, e210⟩ := hp210
          replace e210 := e210.symm
          subst e210
          refine tn_as (show _ = pin σ 1 255 10 from hD.pin lotB_1 255 10) ?_
          refine lv_istore X.1 X.2.1 dL_law_213 hl (by decide) rfl (fun ls hl => ?_)
          replace hl : lv_has ls 17 [(7, _), (6, _), (5, _), (4, _), (1, _), (0, _)] := hl
          refine lv_iload X.1 X.2.1 dL_law_215 (lv_at hl 0 rfl) ?_
          refine tn_ne0 (tgt := 222) X dL_law_217 (by decide) (by omega) (fun h217 => ?_) (fun h217 => ?_)
          · exact T222 _ hD h217 ls H locs hM hS (lv_sub hl [0, 1, 2, 3, 4, 5] rfl)
          · refine tn_ic (v := 1) X dL_law_220 (by decide) ?_
            exact hfin 221 H ls locs dL_law_221 hS
        · exfalso; omega
      · exfalso; omega
    | succ k ih =>
      intro T ν hk hD ls H locs hM hS hl
      have hTl : T < 2 ^ all := by omega
      have K165 : al σ T = true → ∀ (ν : Mm), dsk σ ν → ∀ (ls : Array Slot) (H : Heap) (locs : List Loc), xM G ν [(C, aI G 2 (cntA many all))] H → pS G s.heap H locs → lv_has ls 17 [(8, .int (nI (toT σ T))), (7, .int (nI T)), (6, .int (nI (toT σ bs))), (5, .int (nI bs)), (4, .ref C), (1, .ref (ra G 0)), (0, .ref b)] → W p l e room_1 s m args below meth c H locs 600086 7301442 Q (F0 m 165 ls []) := by
        intro hTa ν hD ls H locs hM hS hl
        have hgT := gd_le_pin hW lotB_1 T
        have hfT := feF_le hW T (gdF σ 1 T)
        have htT : toT σ T = gdF σ 1 T + feF σ T (gdF σ 1 T) := rfl
        refine lv_aload_n X.1 X.2.1 dL_law_165 rfl (lv_at hl 5 rfl) ?_
        refine lv_iload X.1 X.2.1 dL_law_166 (lv_at hl 1 rfl) ?_
        refine kLD (As := [_]) X hM hS hl.1 (c_X5_goods (hD.WD hW) (by rw [hD.d, h06]; exact hTl) (by rw [hD.al]; exact hTa)) rfl kl_L_80 mf_X5_goods ⟨Nat.le_of_ble_eq_true rfl, Nat.le_of_ble_eq_true rfl⟩ ⟨Nat.le_refl _, Nat.le_refl _⟩ rfl (Nat.le_of_ble_eq_true rfl) dL_law_168 (fun r168 ν168 H locs hp168 hM hS => ?_)
        obtain ⟨e168, hd168⟩ := hp168
        refine tn_as (show r168 = gdF σ 1 T from e168.trans (hD.gdF lotB_1 T)) ?_
        replace hD := hD.trans hd168
        refine lv_aload_n X.1 X.2.1 dL_law_171 rfl (lv_at hl 5 rfl) ?_
        refine kLD (As := []) X hM hS hl.1 (c_X5_value (hD.WD hW)) rfl kl_L_83 mf_X5_value ⟨Nat.le_of_ble_eq_true rfl, Nat.le_of_ble_eq_true rfl⟩ ⟨Nat.le_refl _, Nat.le_refl _⟩ rfl (Nat.le_of_ble_eq_true rfl) dL_law_172 (fun r172 ν172 H locs hp172 hM hS => ?_)
        obtain ⟨rfl, e172⟩ := hp172
        replace e172 := e172.symm
        subst e172
        refine tn_as (show _ = pin σ 1 255 10 from hD.pin lotB_1 255 10) ?_
        refine tn_gt (tgt := 189) X dL_law_175 (by decide) (by omega) (by omega) (fun h175 => ?_) (fun h175 => ?_)
        · exfalso; omega
        · refine lv_iload X.1 X.2.1 dL_law_178 (lv_at hl 0 rfl) ?_
          refine lv_aload_n X.1 X.2.1 dL_law_180 rfl (lv_at hl 5 rfl) ?_
          refine lv_iload X.1 X.2.1 dL_law_181 (lv_at hl 1 rfl) ?_
          refine kLD (As := [_]) X hM hS hl.1 (c_X5_goods (hD.WD hW) (by rw [hD.d, h06]; exact hTl) (by rw [hD.al]; exact hTa)) rfl kl_L_80 mf_X5_goods ⟨Nat.le_of_ble_eq_true rfl, Nat.le_of_ble_eq_true rfl⟩ ⟨Nat.le_refl _, Nat.le_refl _⟩ rfl (Nat.le_of_ble_eq_true rfl) dL_law_183 (fun r183 ν183 H locs hp183 hM hS => ?_)
          obtain ⟨e183, hd183⟩ := hp183
          refine tn_as (show r183 = gdF σ 1 T from e183.trans (hD.gdF lotB_1 T)) ?_
          replace hD := hD.trans hd183
          refine tn_ge (tgt := 191) X dL_law_186 (by decide) (by omega) (by omega) (fun h186 => ?_) (fun h186 => ?_)
          · refine tn_inc (k := 1) (w := 1) X dL_law_191 hl rfl (by decide) (by decide) rfl (fun ls hl => ?_)
            replace hl : lv_has ls 17 [(7, _), (8, _), (6, _), (5, _), (4, _), (1, _), (0, _)] := hl
            refine lv_goto (tgt := 85) X.1 X.2.1 dL_law_194 (by decide) ?_
            exact ih (T + 1) _ (by omega) hD ls H locs hM hS (lv_sub hl [0, 2, 3, 4, 5, 6] rfl)
          · exfalso; omega
      refine lv_iload X.1 X.2.1 dL_law_85 (lv_at hl 0 rfl) ?_
      refine tn_ic (v := 1) X dL_law_87 (by decide) ?_
      refine lv_aload X.1 X.2.1 dL_law_88 (lv_at hl 3 rfl) ?_
      refine tn_ic (v := 1) X dL_law_90 (by decide) ?_
      refine x_iald (q := 0) X hM rfl (by omega) (by decide) dL_law_91 ?_
      refine tn_as (cA1 many all) ?_
      refine tn_shl1 X dL_law_92 (by omega) ?_
      refine tn_ge (tgt := 197) X dL_law_93 (by decide) (by omega) (by omega) (fun h93 => ?_) (fun h93 => ?_)
      · exfalso; omega
      · refine lv_aload_n X.1 X.2.1 dL_law_96 rfl (lv_at hl 4 rfl) ?_
        refine lv_iload X.1 X.2.1 dL_law_97 (lv_at hl 0 rfl) ?_
        refine kLD (As := [_]) X hM hS hl.1 (c_X5_isAllowed (hD.WD hW) (by rw [hD.d, h06]; exact hTl)) rfl kl_L_71 mf_X5_isAllowed ⟨Nat.le_of_ble_eq_true rfl, Nat.le_of_ble_eq_true rfl⟩ ⟨Nat.le_refl _, Nat.le_refl _⟩ rfl (Nat.le_of_ble_eq_true rfl) dL_law_99 (fun r99 ν99 H locs hp99 hM hS => ?_)
        obtain ⟨rfl, e99⟩ := hp99
        replace e99 := e99.symm
        subst e99
        refine tn_ne0 (tgt := 108) X dL_law_102 (by decide) (by split <;> decide) (fun h102 => ?_) (fun h102 => ?_)
        · have hTa : al σ T = true := by rw [← hD.al]; exact ite1 h102
          have hmT := hmin T hTl hTa
          unfold better at hmT
          have htT : toT σ T ≤ 610000 := toT_le hW T
          have hbcT := bc_le T
          have hbcb := bc_le bs
          refine lv_aload_n X.1 X.2.1 dL_law_108 rfl (lv_at hl 4 rfl) ?_
          refine lv_iload X.1 X.2.1 dL_law_109 (lv_at hl 0 rfl) ?_
          refine kLD (As := [_]) X hM hS hl.1 (c_X5_total (hD.WD hW) (by rw [hD.d, h06]; exact hTl) (by rw [hD.al]; exact hTa)) rfl kl_L_67 mf_X5_total ⟨Nat.le_of_ble_eq_true rfl, Nat.le_of_ble_eq_true rfl⟩ ⟨Nat.le_refl _, Nat.le_refl _⟩ rfl (Nat.le_of_ble_eq_true rfl) dL_law_111 (fun r111 ν111 H locs hp111 hM hS => ?_)
          obtain ⟨e111, hd111⟩ := hp111
          refine tn_as (show r111 = toT σ T from e111.trans (hD.toT T)) ?_
          replace hD := hD.trans hd111
          refine lv_istore X.1 X.2.1 dL_law_114 hl (by decide) rfl (fun ls hl => ?_)
          replace hl : lv_has ls 17 [(8, _), (7, _), (6, _), (5, _), (4, _), (1, _), (0, _)] := hl
          refine lv_iload X.1 X.2.1 dL_law_116 (lv_at hl 0 rfl) ?_
          refine lv_iload X.1 X.2.1 dL_law_118 (lv_at hl 2 rfl) ?_
          refine tn_lt (tgt := 163) X dL_law_120 (by decide) (by omega) (by omega) (fun h120 => ?_) (fun h120 => ?_)
          · exfalso; omega
          · refine lv_iload X.1 X.2.1 dL_law_123 (lv_at hl 0 rfl) ?_
            refine lv_iload X.1 X.2.1 dL_law_125 (lv_at hl 2 rfl) ?_
            refine tn_ne (tgt := 165) X dL_law_127 (by decide) (by omega) (by omega) (fun h127 => ?_) (fun h127 => ?_)
            · exact K165 hTa _ hD ls H locs hM hS (lv_sub hl [0, 1, 2, 3, 4, 5, 6] rfl)
            · refine lv_iload X.1 X.2.1 dL_law_130 (lv_at hl 1 rfl) ?_
              refine kLJ (As := [_]) X hM hS hl.1 (c_J6_bitCount_0f7a4 (by omega)) kl_L_75 mf_J6_bitCount_0f7a4 ⟨Nat.le_of_ble_eq_true rfl, Nat.le_of_ble_eq_true rfl⟩ ⟨Nat.le_refl _, Nat.le_refl _⟩ rfl (Nat.le_of_ble_eq_true rfl) dL_law_132 (fun r132 ν132 H locs hp132 hM hS => ?_)
              obtain ⟨rfl, e132⟩ := hp132
              replace e132 := e132.symm
              subst e132
              refine lv_iload X.1 X.2.1 dL_law_135 (lv_at hl 3 rfl) ?_
              refine kLJ (As := [_]) X hM hS hl.1 (c_J6_bitCount_0f7a4 (by omega)) kl_L_75 mf_J6_bitCount_0f7a4 ⟨Nat.le_of_ble_eq_true rfl, Nat.le_of_ble_eq_true rfl⟩ ⟨Nat.le_refl _, Nat.le_refl _⟩ rfl (Nat.le_of_ble_eq_true rfl) dL_law_137 (fun r137 ν137 H locs hp137 hM hS => ?_)
              obtain ⟨rfl, e137⟩ := hp137
              replace e137 := e137.symm
              subst e137
              refine tn_lt (tgt := 163) X dL_law_140 (by decide) (by omega) (by omega) (fun h140 => ?_) (fun h140 => ?_)
              · exfalso; omega
              · refine lv_iload X.1 X.2.1 dL_law_143 (lv_at hl 1 rfl) ?_
                refine kLJ (As := [_]) X hM hS hl.1 (c_J6_bitCount_0f7a4 (by omega)) kl_L_75 mf_J6_bitCount_0f7a4 ⟨Nat.le_of_ble_eq_true rfl, Nat.le_of_ble_eq_true rfl⟩ ⟨Nat.le_refl _, Nat.le_refl _⟩ rfl (Nat.le_of_ble_eq_true rfl) dL_law_145 (fun r145 ν145 H locs hp145 hM hS => ?_)
                obtain ⟨rfl, e145⟩ := hp145
                replace e145 := e145.symm
                subst e145
                refine lv_iload X.1 X.2.1 dL_law_148 (lv_at hl 3 rfl) ?_
                refine kLJ (As := [_]) X hM hS hl.1 (c_J6_bitCount_0f7a4 (by omega)) kl_L_75 mf_J6_bitCount_0f7a4 ⟨Nat.le_of_ble_eq_true rfl, Nat.le_of_ble_eq_true rfl⟩ ⟨Nat.le_refl _, Nat.le_refl _⟩ rfl (Nat.le_of_ble_eq_true rfl) dL_law_150 (fun r150 ν150 H locs hp150 hM hS => ?_)
                obtain ⟨rfl, e150⟩ := hp150
                replace e150 := e150.symm
                subst e150
                refine tn_ne (tgt := 165) X dL_law_153 (by decide) (by omega) (by omega) (fun h153 => ?_) (fun h153 => ?_)
                · exact K165 hTa _ hD ls H locs hM hS (lv_sub hl [0, 1, 2, 3, 4, 5, 6] rfl)
                · refine lv_iload X.1 X.2.1 dL_law_156 (lv_at hl 1 rfl) ?_
                  refine lv_iload X.1 X.2.1 dL_law_158 (lv_at hl 3 rfl) ?_
                  refine tn_ge (tgt := 165) X dL_law_160 (by decide) (by omega) (by omega) (fun h160 => ?_) (fun h160 => ?_)
                  · exact K165 hTa _ hD ls H locs hM hS (lv_sub hl [0, 1, 2, 3, 4, 5, 6] rfl)
                  · exfalso; omega
        · refine lv_goto (tgt := 191) X.1 X.2.1 dL_law_105 (by decide) ?_
          refine tn_inc (k := 0) (w := 1) X dL_law_191 hl rfl (by decide) (by decide) rfl (fun ls hl => ?_)
          replace hl : lv_has ls 17 [(7, _), (6, _), (5, _), (4, _), (1, _), (0, _)] := hl
          refine lv_goto (tgt := 85) X.1 X.2.1 dL_law_194 (by decide) ?_
          exact ih (T + 1) _ (by omega) hD ls H locs hM hS (lv_sub hl [0, 1, 2, 3, 4, 5] rfl)
  refine lv_aload_n X.1 X.2.1 dL_law_68 rfl (lv_at hl 1 rfl) ?_
  refine kLD (As := []) X hM hS hl.1 (c_X5_best hW) rfl kl_L_63 mf_X5_best ⟨Nat.le_of_ble_eq_true rfl, Nat.le_of_ble_eq_true rfl⟩ ⟨Nat.le_refl _, Nat.le_refl _⟩ rfl (Nat.le_of_ble_eq_true rfl) dL_law_69 (fun r69 ν69 H locs hp69 hM hS => ?_)
  obtain ⟨e69, hD⟩ := hp69
  refine tn_as (show r69 = bs from e69.trans hbs.symm) ?_
  refine lv_istore X.1 X.2.1 dL_law_72 hl (by decide) rfl (fun ls hl => ?_)
  replace hl : lv_has ls 17 [(5, _), (4, _), (1, _), (0, _)] := hl
  refine lv_aload_n X.1 X.2.1 dL_law_74 rfl (lv_at hl 2 rfl) ?_
  refine lv_iload X.1 X.2.1 dL_law_75 (lv_at hl 0 rfl) ?_
  refine kLD (As := [_]) X hM hS hl.1 (c_X5_total (hD.WD hW) (by rw [hD.d, h06]; exact hblt) (by rw [hD.al]; exact hbal)) rfl kl_L_67 mf_X5_total ⟨Nat.le_of_ble_eq_true rfl, Nat.le_of_ble_eq_true rfl⟩ ⟨Nat.le_refl _, Nat.le_refl _⟩ rfl (Nat.le_of_ble_eq_true rfl) dL_law_77 (fun r77 ν77 H locs hp77 hM hS => ?_)
  obtain ⟨e77, hd77⟩ := hp77
  refine tn_as (show r77 = toT σ bs from e77.trans (hD.toT bs)) ?_
  replace hD := hD.trans hd77
  refine lv_istore X.1 X.2.1 dL_law_80 hl (by decide) rfl (fun ls hl => ?_)
  replace hl : lv_has ls 17 [(6, _), (5, _), (4, _), (1, _), (0, _)] := hl
  refine tn_ic (v := 0) X dL_law_82 (by decide) ?_
  refine lv_istore X.1 X.2.1 dL_law_83 hl (by decide) rfl (fun ls hl => ?_)
  replace hl : lv_has ls 17 [(7, _), (6, _), (5, _), (4, _), (1, _), (0, _)] := hl
  exact L85 (2 ^ all) 0 _ (by omega) hD ls H locs hM hS (lv_sub hl [0, 1, 2, 3, 4, 5] rfl)
set_option maxHeartbeats 8000000 in
set_option maxRecDepth 100000 in
theorem t_37 {p : Program} {l : Launch} {e : Env} {s : State} {m : MethodId} {args : Array Value} {below : List Frame} {meth : Method} {c : Code} {Q : State → Prop} {G : dG} {b C many all : Nat} (X : dC p s m args c code 17 RL G) (hX : hasX b s) (hb : b < G.2.2) (hm1 : 1 ≤ many) (hm5 : many ≤ 5) (ha5 : all ≤ 5) (hfin : ∀ (pc : Nat) (H : Heap) (ls : Array Slot) (locs : List Loc), decode code pc = .ok (.ireturn, 1) → pS G s.heap H locs → W p l e room_1 s m args below meth c H locs 600086 7301442 Q (F0 m pc ls [.int (nI 1)])) : ∀ (ν : Mm), bOK many all ν → ∀ (ls : Array Slot) (H : Heap) (locs : List Loc), xM G ν [(C, aI G 2 (cntA many all))] H → pS G s.heap H locs → lv_has ls 17 [(4, .ref C), (1, .ref (ra G 0)), (0, .ref b)] → W p l e room_1 s m args below meth c H locs 600086 7301442 Q (F0 m 37 ls []) := by
  intro ν hB ls H locs hM hS hl
  refine lv_aload_n X.1 X.2.1 dL_law_37 rfl (lv_at hl 1 rfl) ?_
  refine lv_aload_n X.1 X.2.1 dL_law_38 rfl (lv_at hl 2 rfl) ?_
  refine tn_bi (v := 8) X dL_law_39 (by decide) ?_
  refine kLS (As := [_, _]) hasX.calling (hX.go hb hS) X hM hS hl.1 (c_L_cell (k := _) (by omega)) kl_L_9 mf_L_cell ⟨Nat.le_of_ble_eq_true rfl, Nat.le_of_ble_eq_true rfl⟩ ⟨Nat.le_refl _, Nat.le_refl _⟩ rfl (Nat.le_of_ble_eq_true rfl) dL_law_41 (fun z41 H locs _ hM hS _ _ => ?_)
  refine tn_si (v := 400) X dL_law_44 (by decide) ?_
  refine kLS (As := [_, _]) (fun _ _ _ _ h => h) (fun _ _ _ => trivial) X hM hS hl.1 (c_L_below (n := _) (by omega) (by omega)) kl_L_15 mf_L_below ⟨Nat.le_of_ble_eq_true rfl, Nat.le_of_ble_eq_true rfl⟩ ⟨Nat.le_refl _, Nat.le_refl _⟩ rfl (Nat.le_of_ble_eq_true rfl) dL_law_47 (fun z47 H locs hz47 hM hS _ _ => ?_)
  obtain ⟨q47, hq47, rfl⟩ := hz47
  refine lv_aload_n X.1 X.2.1 dL_law_50 rfl (lv_at hl 2 rfl) ?_
  refine tn_bi (v := 8) X dL_law_51 (by decide) ?_
  refine kLS (As := [_, _]) hasX.calling (hX.go hb hS) X hM hS hl.1 (c_L_cell (k := _) (by omega)) kl_L_9 mf_L_cell ⟨Nat.le_of_ble_eq_true rfl, Nat.le_of_ble_eq_true rfl⟩ ⟨Nat.le_refl _, Nat.le_refl _⟩ rfl (Nat.le_of_ble_eq_true rfl) dL_law_53 (fun z53 H locs _ hM hS _ _ => ?_)
  refine tn_ic (v := 5) X dL_law_56 (by decide) ?_
  refine tn_sar X dL_law_57 (fun z57 => ?_)
  refine tn_si (v := 2500) X dL_law_58 (by decide) ?_
  refine kLS (As := [_, _]) (fun _ _ _ _ h => h) (fun _ _ _ => trivial) X hM hS hl.1 (c_L_below (n := _) (by omega) (by omega)) kl_L_15 mf_L_below ⟨Nat.le_of_ble_eq_true rfl, Nat.le_of_ble_eq_true rfl⟩ ⟨Nat.le_refl _, Nat.le_refl _⟩ rfl (Nat.le_of_ble_eq_true rfl) dL_law_61 (fun z61 H locs hz61 hM hS _ _ => ?_)
  obtain ⟨q61, hq61, rfl⟩ := hz61
  refine kLD (As := [_, _]) X hM hS hl.1 (c_X5_setShipping (by omega) (by omega)) rfl kl_L_60 mf_X5_setShipping ⟨Nat.le_of_ble_eq_true rfl, Nat.le_of_ble_eq_true rfl⟩ ⟨Nat.le_refl _, Nat.le_refl _⟩ rfl (Nat.le_of_ble_eq_true rfl) dL_law_64 (fun r64 ν64 H locs hp64 hM hS => ?_)
  obtain ⟨e64, rfl⟩ := hp64
  refine lv_pop X.1 X.2.1 dL_law_67 rfl ?_
  exact t_68 X hX hb hm1 hm5 ha5 hfin _ (hB.ship (by omega) (by omega)) ls H locs hM hS (lv_sub hl [0, 1, 2] rfl)
end
section
/-! THE CLAIM OUT OF ONE WALK OF THE LAW'S BODY. Your part is whole_start (and what it stands on); all else here is the same for every law, but numbers. -/
def R_law : String := "CouponDeskLaw"
def lw_P (b : Addr) (xs : List Int32) (args : Array Value) (s : State) : Prop := args = #[.ref b] ∧ s.IntsAt b xs ∧ xs.length ≤ 260 ∧ (Jvm.Cond.and given_1 narrow_1).before args s = true
def lw_Q (_ : Array Value) (s : State) (o : Outcome) (t : State) : Prop := o = .returned (some (.int 1)) ∧ Framed s o t [] 600086 7301442
def lw_Z (below : List Frame) (a : Array Value) (s : State) : State → Prop := fun t => ∃ o, t.status = .running ∧ Ended t below o ∧ lw_Q a s o t
/-- the law's own end, with 1 on the stack, nothing written that was there before, its room as the claim has it -/
theorem lw_ret {p : Program} {l : Launch} {e : Env} {s : State} {m : MethodId} {below : List Frame} {meth : Method} {c : Code} {b : Nat} (hx : p.tables.exec = Jvm.exec) (hb : c.code = code) (hr : meth.sig.returnType = ret) (hlocks : meth.locks = false) {pc : Nat} {H : Heap} {ls : Array Slot} (hdg : decode code pc = .ok (.ireturn, 1)) : W p l e room_1 s m #[Value.ref b] below meth c H [] 600086 7301442 (lw_Z below #[Value.ref b] s) (F0 m pc ls [.int 1]) := by
  intro T hT X
  obtain ⟨fs, hret, hrun, hended, hW, hframe⟩ := X.leave (v := some (.int 1)) (hlocks := hlocks) (fun h => by rw [hr] at h; cases h)
  have hmeth' : T.vm.method? m = some meth := X.method'
  refine ⟨T.setFrames fs, ?_, .returned (some (.int 1)), hrun, hended, rfl, ⟨_, rfl⟩, hW, hframe⟩
  jvm_step X.here [X.here.top, hx, hb, hdg, hmeth', hr, ret, narrow_b1]
  (try refine ⟨rfl, ?_⟩); (try refine ⟨rfl, ?_⟩)
  first | (intro acts; rw [hret _ acts rfl rfl rfl]) | rw [hret _ _ rfl rfl rfl]
  exact Steps.refl _
/-- what holds at the law's entry: the machine, the code, the tables' words (any of lw_tbl by 'hts w (by decide +kernel)'), the script of L ints xs at the cell b, what the Statement gives of the start (any of its parts by flat_of_before) -/
def lw_At (p : Program) (s : State) (m : MethodId) (meth : Method) (c : Code) (b L : Nat) (xs : Nat → Int32) : Prop :=
  p.tables.exec = Jvm.exec ∧ c.code = code ∧ meth.sig.returnType = ret ∧ c.maxLocals = 17 ∧ s.vm.findClass R_law = some m.cls ∧ (∀ w ∈ lw_tbl, w.before #[Value.ref b] s = true) ∧ va_X b L xs s s.heap ∧ b < s.heap.size ∧ meth.locks = false ∧ (Jvm.Cond.and given_1 narrow_1).before #[Value.ref b] s = true
end
section
/-! ===== the law's start ===== -/
theorem aoA_of {U : State} (h : vAOA U) : ∃ (comp c : ClassId) (k : Class), U.vm.classes[c]? = some k ∧ k.kind = .array comp (.array .int) ∧ U.vm.findClass ("[" ++ (FieldType.array .int).toString) = some c := by
  unfold vAOA Cond.before at h
  simp only [Cond.holds, Cond.value, beq_iff_eq] at h
  cases hc : U.vm.findClass (FieldType.array .int).toString with
  | none => simp [hc] at h
  | some comp =>
    simp only [hc, Option.bind_some, Option.bind_eq_some_iff, Option.map_eq_some_iff] at h
    obtain ⟨c, hi, k, hk, hb⟩ := h
    cases hkind : k.kind with
    | array component ty =>
      rw [hkind] at hb
      simp at hb
      exact ⟨component, c, k, hk, by rw [hkind, hb.1], hb.2⟩
    | _ => rw [hkind] at hb; simp at hb
theorem arrOf {U : State} {cA comp : ClassId} {k : Class} {ty : FieldType} (h1 : U.vm.classes[cA]? = some k) (h2 : k.kind = .array comp ty) : ArrOfT U cA ty := fun n z => ⟨fun k h => (by cases h), k, h1, comp, h2⟩
theorem geo {s : State} {args : Array Value} (hts : ∀ w ∈ allW, w.before args s = true) (hN : NZ s) (hA : NA s) : ∃ G : dG, G.2.2 = s.heap.size ∧ dK G s := by
  obtain ⟨c0, i0, h0⟩ := u_known (C := RX0) (T := TX0) (N := 6) (n := 6) hts inA0 (hts _ ki_X0)
  obtain ⟨c1, i1, h1⟩ := u_known (C := RX1) (T := TX1) (N := 3) (n := 3) hts inA1 (hts _ ki_X1)
  obtain ⟨c2, i2, h2⟩ := u_known (C := RX2) (T := TX2) (N := 4) (n := 4) hts inA2 (hts _ ki_X2)
  obtain ⟨c3, i3, h3⟩ := u_known (C := RX3) (T := TX3) (N := 5) (n := 5) hts inA3 (hts _ ki_X3)
  obtain ⟨c4, i4, h4⟩ := u_known (C := RX4) (T := TX4) (N := 5) (n := 5) hts inA4 (hts _ ki_X4)
  obtain ⟨c5, i5, h5⟩ := u_known (C := RX5) (T := TX5) (N := 10) (n := 10) hts inA5 (hts _ ki_X5)
  obtain ⟨a0, k0, m0, e1, e2, e3⟩ := Cond.arrayClass_spec (hts _ ka_int)
  obtain ⟨m1, a1, k1, f1, -, f2, f3, f4⟩ := Cond.arrayOver_spec hA.1
  obtain ⟨m2, a2, k2, g1, -, g2, g3, g4⟩ := Cond.arrayOver_spec hA.2.1
  obtain ⟨m3, a3, k3, j1, j2, j3⟩ := aoA_of hA.2.2
  refine ⟨((fun k => if k = 0 then c0 else if k = 1 then c1 else if k = 2 then c2 else if k = 3 then c3 else if k = 4 then c4 else c5, fun k => if k = 0 then i0 else if k = 1 then i1 else if k = 2 then i2 else if k = 3 then i3 else if k = 4 then i4 else i5), (a0, a1, a2, a3), s.heap.size), rfl, ⟨fun k q hq => ?_, fun k q hq => ?_⟩, hN⟩
  · match k, hq with
    | 0, hq => cases hq; exact h0
    | 1, hq => cases hq; exact h1
    | 2, hq => cases hq; exact h2
    | 3, hq => cases hq; exact h3
    | 4, hq => cases hq; exact h4
    | 5, hq => cases hq; exact h5
    | k + 6, hq => simp [dkCl] at hq
  · match k, hq with
    | 0, hq => cases hq; exact ⟨arrOf e2 e3, e1⟩
    | 1, hq => cases hq; exact ⟨arrOf f2 f3, k1, m1, f2, f3, f1, f4⟩
    | 2, hq => cases hq; exact ⟨arrOf g2 g3, k2, m2, g2, g3, g1, g4⟩
    | 3, hq => cases hq; exact ⟨arrOf j1 j2, j3⟩
    | k + 4, hq => simp [dT] at hq
theorem ao_X0 : Cond.arrayOver (.object RX0) ∈ lw_tbl := tb_in 49 (by decide +kernel)
theorem ao_X2 : Cond.arrayOver (.object RX2) ∈ lw_tbl := tb_in 51 (by decide +kernel)
theorem ao_AA : Cond.arrayOver (.array .int) ∈ lw_tbl := tb_in 59 (by decide +kernel)
theorem pM.x {G : dG} {E : Nat → va_E} {H : Heap} (hN : newN G E) (hP : pM G E 90 H) : xM G nu0 [] H :=
  ⟨newN_dM hN hP, fun k q h => by simp at h, ⟨fun i j x y h => by simp at h, fun k q h => by simp at h⟩, fun k q h => by simp at h, by rw [hP.1]; exact Nat.le_refl _⟩
theorem bPc_blind (G : dG) (b A B : Nat) (f g : Nat → Nat) : FrameBlind (bPc G b A B f g) := fun a U fr mk q => by
  obtain ⟨q0, q1, q2, q3, q4⟩ := q
  exact ⟨q0, q1, q2.calling, hasX.calling U fr mk a q3, q4⟩
set_option maxHeartbeats 8000000 in
set_option maxRecDepth 100000 in
theorem whole_start {p : Program} {e : Env} {s : State} {m : MethodId} {below : List Frame} {meth : Method} {c : Code} (l : Launch) (hflags : l.flags = flags0) {b L : Nat} {xs : Nat → Int32} (hL : L ≤ 260) (C0 : lw_At p s m meth c b L xs) : W p l e room_1 s m #[Value.ref b] below meth c s.heap [] 0 0 (lw_Z below #[Value.ref b] s) (entryFrame m ([Value.ref b] : List Value).toArray 17) := by
  obtain ⟨hx, hbc, hr, hml, hown, hts, hX, hbl, hlocks, hgv⟩ := id C0
  have htsA : ∀ w ∈ allW, w.before #[Value.ref b] s = true := fun w h => hts w (allW_tbl h)
  have hNA : NA s := ⟨hts _ ao_X0, hts _ ao_X2, hts _ ao_AA⟩
  have hNZ : NZ s := fun w h => by
    have h1 := hts w (List.mem_filter.mp h).1
    have h2 := (List.mem_filter.mp h).2
    cases w <;> first | exact va_Nw.of rfl h1 | exact absurd h2 (by simp [isNest])
  obtain ⟨G, hGb, hK⟩ := geo htsA hNZ hNA
  have X : dC p s m #[Value.ref b] c code 17 RL G := ⟨hx, hbc, hml, hown, htsA, hK⟩
  have hl := lv_entry ([.ref b]) (n := 17) (Nat.le_of_ble_eq_true rfl)
  rw [lg_entry_eq]
  generalize (lg_sl ([.ref b]) ++ List.replicate (17 - (lg_sl ([.ref b])).length) Slot.unset).toArray = ls at hl ⊢
  replace hl : lv_has ls 17 [(0, .ref b)] := hl
  have hbG : b < G.2.2 := by rw [hGb]; exact hbl
  have hXs : hasX b s := ⟨L, xs, hL, hbl, hX⟩
  have hS : pS G s.heap s.heap [] := va_S.rf
  have hP : pM G (fun _ => .inr (0, [])) 0 s.heap := ⟨by rw [hGb]; rfl, fun i hi => by omega⟩
  have hfin : ∀ (pc : Nat) (H : Heap) (ls : Array Slot) (locs : List Loc), decode code pc = .ok (.ireturn, 1) → pS G s.heap H locs → W p l e room_1 s m #[Value.ref b] below meth c H locs 600086 7301442 (lw_Z below #[Value.ref b] s) (F0 m pc ls [.int (nI 1)]) := fun pc H ls locs hd hS => by
    refine va_forget (fun q hq => ?_) ?_
    · have := hS.2.2 q hq
      rw [← hGb]; exact this
    · exact lw_ret hx hbc hr hlocks hd
  refine p_new (ci := 5) (C := RX5) (T := TX5) (N := 10) (fs := [.null, .null, .null, .null, .null, .int (nI 0), .int (nI 0), .int (nI 0), .int (nI 0), .int (nI 0)]) X hP hS inA5 tyX5_ok kc_L_20 ki_X5 kn_X5 rfl (fun j hj => by rcases (show j = 0 ∨ j = 1 ∨ j = 2 ∨ j = 3 ∨ j = 4 ∨ j = 5 ∨ j = 6 ∨ j = 7 ∨ j = 8 ∨ j = 9 by omega) with rfl | rfl | rfl | rfl | rfl | rfl | rfl | rfl | rfl | rfl <;> rfl) (Nat.le_of_ble_eq_true rfl) (Nat.le_of_ble_eq_true rfl) dL_law_0 (fun H hP hS => ?_)
  refine lv_dup hx hbc dL_law_3 rfl ?_
  refine va_callv (va_runI (As := []) (rest := [.ref (ra G 0)]) ⟨X.1, X.2.1, X.2.2.1, X.2.2.2.1, X.2.2.2.2.1⟩ (c_X5_init (va_up_self _ _ _) H.size) ⟨callB_of 0 X.2.2.2.2.1 (goodIn_all (fun _ h => h) mi_X5.2) rfl rfl rfl (X.2.2.2.2.1 _ kn_X5) (X.2.2.2.2.1 _ kl_L_55) ⟨by decide +kernel, by decide +kernel, by decide +kernel⟩ ⟨Nat.le_of_ble_eq_true rfl, Nat.le_of_ble_eq_true rfl⟩, rfl, X.2.2.2.2.1 _ mi_X5.1⟩ ⟨nPc_blind _ _ _ _ _, fun U hU hW => ⟨rfl, by rw [hU], by rw [hU]; exact hP, X.2.2.2.2.2.warm hW, hNA.moved hW.alike⟩⟩ rfl rfl hl.1 rfl (lv_room (Nat.le_of_ble_eq_true rfl)) dL_law_4 ⟨Nat.le_of_ble_eq_true rfl, Nat.le_of_ble_eq_true rfl⟩) hS (fun q _ h => h) (fun q h => h) (fun E t H locs ht hvm hw hB _ _ hS => ?_)
  rw [ht] at hB
  have hM : xM G nu0 [] H := pM.x hw hB
  refine lv_astore_n X.1 X.2.1 dL_law_7 rfl hl (by decide) rfl (fun ls hl => ?_)
  replace hl : lv_has ls 17 [(1, .ref (ra G 0)), (0, .ref b)] := hl
  refine tn_bi (v := 30) X dL_law_8 (by decide) ?_
  refine x_newI (ws' := fun a => [(a, aI G 30 (fun _ => 0))]) X hM hS (by decide) (Nat.le_of_ble_eq_true rfl) (Nat.le_of_ble_eq_true rfl) (fun _ => rfl) dL_law_10 (fun A H hM hS => ?_)
  refine lv_astore_n X.1 X.2.1 dL_law_12 rfl hl (by decide) rfl (fun ls hl => ?_)
  replace hl : lv_has ls 17 [(2, .ref A), (1, .ref (ra G 0)), (0, .ref b)] := hl
  refine tn_bi (v := 48) X dL_law_13 (by decide) ?_
  refine x_newI (ws' := fun a => [(A, aI G 30 (fun _ => 0)), (a, aI G 48 (fun _ => 0))]) X hM hS (by decide) (Nat.le_of_ble_eq_true rfl) (Nat.le_of_ble_eq_true rfl) (fun _ => rfl) dL_law_15 (fun B H hM hS => ?_)
  refine lv_astore_n X.1 X.2.1 dL_law_17 rfl hl (by decide) rfl (fun ls hl => ?_)
  replace hl : lv_has ls 17 [(3, .ref B), (2, .ref A), (1, .ref (ra G 0)), (0, .ref b)] := hl
  refine lv_aload_n X.1 X.2.1 dL_law_18 rfl (lv_at hl 2 rfl) ?_
  refine lv_aload_n X.1 X.2.1 dL_law_19 rfl (lv_at hl 3 rfl) ?_
  refine tn_ic (v := 0) X dL_law_20 (by decide) ?_
  refine tn_ic (v := 5) X dL_law_21 (by decide) ?_
  refine tn_ic (v := 5) X dL_law_22 (by decide) ?_
  refine lv_aload_n X.1 X.2.1 dL_law_23 rfl (lv_at hl 1 rfl) ?_
  refine lv_aload_n X.1 X.2.1 dL_law_24 rfl (lv_at hl 0 rfl) ?_
  refine va_callr (va_runS (As := [.ref (ra G 0), .ref b, .int (nI 0), .int (nI 5), .int (nI 5), .ref A, .ref B]) (rest := []) ⟨X.1, X.2.1, X.2.2.1, X.2.2.2.1, X.2.2.2.2.1⟩ (c_L_build (f0 := fun _ => 0) (g0 := fun _ => 0)) ⟨callB_of 7 X.2.2.2.2.1 (goodIn_all (fun _ h => h) mf_L_build.2.2.1) rfl rfl rfl (X.2.2.2.2.1 _ mf_L_build.2.1) (X.2.2.2.2.1 _ kl_L_56) mf_L_build.2.2.2 ⟨Nat.le_of_ble_eq_true rfl, Nat.le_of_ble_eq_true rfl⟩, X.2.2.2.2.1 _ mf_L_build.1⟩ ⟨bPc_blind _ _ _ _ _ _, fun U hU hW => ⟨rfl, by rw [hU]; exact hM, X.2.2.2.2.2.warm hW, hXs.go hbG hS U hU hW, hbG⟩⟩ rfl rfl hl.1 rfl (lv_room (Nat.le_of_ble_eq_true rfl)) dL_law_25 ⟨Nat.le_of_ble_eq_true rfl, Nat.le_of_ble_eq_true rfl⟩) hS (fun q _ h => h) (fun q h => h) (fun u C t H locs ht hvm hw hB _ _ hS => ?_)
  rw [ht] at hB
  obtain ⟨ν, many, all⟩ := u
  obtain ⟨hm1, hm5, ha5, hBk⟩ := hw
  refine W.widen (k := 600086) (n := 7301442) (Nat.le_of_ble_eq_true rfl) (Nat.le_of_ble_eq_true rfl) ?_
  refine lv_astore X.1 X.2.1 dL_law_28 hl (by decide) rfl (fun ls hl => ?_)
  replace hl : lv_has ls 17 [(4, .ref C), (3, .ref B), (2, .ref A), (1, .ref (ra G 0)), (0, .ref b)] := hl
  refine lv_aload X.1 X.2.1 dL_law_30 (lv_at hl 0 rfl) ?_
  refine lv_ifnonnull (tgt := 37) X.1 X.2.1 dL_law_32 (by decide) ?_
  exact t_37 X hXs hbG hm1 hm5 ha5 hfin ν hBk ls H locs hB hS (lv_sub hl [0, 3, 4] rfl)
end
section
set_option maxHeartbeats 4000000 in
theorem lw_walk (l : Launch) (hflags : l.flags = flags0) (b : Addr) (xs : List Int32) : MetFree l x (headSpec (Jvm.Cond.code x code maxLocals ret :: tables_1) room_1) (lw_P b xs) (fun _ _ _ _ _ => True) lw_Q := by
  refine MetFree.of_bodyS (code := code) (maxLocals := maxLocals) (ret := ret) (by decide) ?_ ?_
  · intro args s m h hn
    obtain ⟨meth, c, h1, h2, h3, h4, h5, h6, -, -⟩ := Cond.code_spec hn (atoms_spec (ws := Jvm.Cond.code x code maxLocals ret :: tables_1) h _ List.mem_cons_self)
    exact ⟨meth, c, h1, h2, h3, h4, h5, h6⟩
  · intro p e s m args below meth c s₁ B hml0 hP _
    obtain ⟨rfl, hx, hbd, hgv⟩ := hP
    obtain ⟨scr, harrAt, hlist, hof, hsmall⟩ := hx
    obtain ⟨hcb, hkn, -, -⟩ := State.arrayAt?_spec harrAt
    have hown : s.vm.findClass R_law = some m.cls := findClass_of_methodNamed B.named
    have hts0 : ∀ c ∈ (Jvm.Cond.code x code maxLocals ret :: tables_1), c.before #[Value.ref b] s = true := atoms_spec (ws := Jvm.Cond.code x code maxLocals ret :: tables_1) B.pre
    have hts : ∀ w ∈ lw_tbl, w.before #[Value.ref b] s = true := k2_hts_sels lw_privs (fun w hw => hts0 w (List.mem_cons_of_mem _ hw)) lw_privs_ok
    have hml : c.maxLocals = 17 := B.maxLocals_eq (hts0 _ List.mem_cons_self)
    have X₀ : Stand p l e room_1 s m #[Value.ref b] below meth c s₁ [] 0 0 := Stand.of_body B
    have hh0 : s₁.heap = s.heap := by rw [B.state]; rfl
    have hsz : scr.slots.size = xs.length := by rw [← Array.length_toList, hlist, List.length_map]
    have hval : ∀ j : Nat, j < xs.length → scr.slots[j]? = some (.int (xs.getD j 0)) := fun j hj => by
      rw [← Array.getElem?_toList, hlist]
      simp [hj]
    have hbl : b < s.heap.size := (Array.getElem?_eq_some_iff.mp hcb).1
    have hX : va_X b xs.length (fun j => xs.getD j 0) s s.heap := ⟨scr, hcb, hof, hkn, hsz, hval⟩
    have K : W p l e room_1 s m #[Value.ref b] below meth c s₁.heap [] 0 0 (lw_Z below #[Value.ref b] s) (entryFrame m ([Value.ref b] : List Value).toArray 17) := by
      rw [hh0]
      exact whole_start l hflags hbd ⟨B.exec, B.bytes, B.returns, hml, hown, hts, hX, hbl, B.notSynchronized, hgv⟩
    obtain ⟨t, a1, o, b1, b2, b3⟩ := K s₁ rfl X₀
    exact ⟨t, o, a1, b1, b2, b3⟩
theorem lw_pre_spec {args : Array Value} {s : State} (h : (Jvm.Cond.and given_1 narrow_1).before args s = true) (hr : rest_1_c.before args s = true) : ∃ (b : Addr) (xs : List Int32), lw_P b xs args s := by
  have hs := flat_of_before _ h
  have hq := flat_of_before _ hr
  have hc : (Cond.count 1).before args s = true := hs _ (by decide +kernel)
  have harr : (Cond.arrayOf (.arg 0) .int).before args s = true := hs _ (by decide +kernel)
  have hle : (Cond.le (.length (.arg 0)) (.int 260)).before args s = true := hs _ (by decide +kernel)
  have hlen : (Cond.isInt (.length (.arg 0))).before args s = true := hq _ (by decide +kernel)
  have hall : (Cond.all (.arg 0) (.isInt (.elem (.arg 0) (.index 0)))).before args s = true := hq _ (by decide +kernel)
  obtain ⟨b, xs, hb, hx⟩ := State.ints_of_pre rfl harr hlen hall
  have hsm : xs.length < 2 ^ 31 := hx.choose_spec.2.2.2
  have hev : (Term.length (.arg 0)).eval args s none [] s = some (.int xs.length.toInt32) := hx.length_eval hb
  have hv := Cond.le_ints hev (show (Term.int 260).eval args s none [] s = some (.int 260) from rfl)
  have hd : xs.length.toInt32 ≤ 260 := by
    simpa [Cond.before, Cond.holds, hv] using hle
  have hN : xs.length ≤ 260 := (Int32.ofNat_le_ofNat hsm (by decide)).mp (show Int32.ofNat xs.length ≤ Int32.ofNat 260 from hd)
  exact ⟨b, xs, Cond.one_arg hc (show args[0]? = some (.ref b) from hb), hx, hN, h⟩
theorem lw_comes (l : Launch) (hflags : l.flags = flags0) : Comes l x (Jvm.Cond.code x code maxLocals ret :: tables_1) room_1 (fun tb e args s => Calls_1 tb e args s ∧ rest_1 tb e args s ∧ Pre_1 tb e args s)
    (fun _ _ args s o t => lw_Q args s o t) := by
  intro p e ha hc hk s m args below hf hfit hheap happ hpre
  obtain ⟨b, xs, hP⟩ := lw_pre_spec hpre.2.2 hpre.2.1
  obtain ⟨k, o, h1, h2, h3, hQ⟩ := lw_walk l hflags b xs p e ha hc hk s m args below hf ((Spec.applies_iff_loose hf).mp happ).1 hP trivial
  exact ⟨k, o, h1, h2, h3, hQ⟩
theorem lw_frame {s t : State} {o : Outcome} {args : Array Value} (h : Framed s o t [] 600086 7301442) :
    Framed s o t (fieldLocs frame_1_writes args s ++ arrayLocs frame_1_arrays args s ++ staticLocs frame_1_statics s) 600086 7301442 := h
theorem lw_limb (L : Cond) (hL : ∀ (args : Array Value) (s t : State), L.after args s (.returned (some (.int 1))) t = true) :
    ArmFor flags0 classFile x code maxLocals ret World_1 tables_1 room_1 Calls_1 rest_1 Pre_1
      (fun tb e a s o t => postC L tb e a s o t ∧ Framed s o t (fieldLocs frame_1_writes a s ++ arrayLocs frame_1_arrays a s ++ staticLocs frame_1_statics s) 600086 7301442) := by
  intro l hflags _ _ p e ha hc hk s m args below hf hfit hheap happ hpre
  obtain ⟨k, o, h1, h2, h3, rfl, hF⟩ := lw_comes l hflags p e ha hc hk s m args below hf hfit hheap happ hpre
  exact ⟨k, _, h1, h2, h3, hL args s _, lw_frame hF⟩
theorem i_vc : Claimed_1_1 ∧ Claimed_1_2 := ⟨lw_limb limb_1_1 (fun args s t => by simp [limb_1_1, Cond.after, Cond.holds, Cond.value]), lw_limb limb_1_2 (fun args s t => Cond.after_iff.mpr (by
  first | (rw [show limb_1_2 = Cond.eq .result (.int 1) from rfl, Cond.eq_ints (x := 1) (y := 1) rfl rfl]; simp; done) | (simp [limb_1_2, Cond.value, Term.eval]; done)))⟩
end
