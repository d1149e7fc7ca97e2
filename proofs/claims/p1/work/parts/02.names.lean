def RX0 : String := "CouponDesk$Coupon"
def TX0 : u_T := fun k => match k with
  | 0 => ("CouponDesk$Coupon", "kind", "I", false)
  | 1 => ("CouponDesk$Coupon", "value", "I", false)
  | 2 => ("CouponDesk$Coupon", "categories", "I", false)
  | 3 => ("CouponDesk$Coupon", "minimum", "I", false)
  | 4 => ("CouponDesk$Coupon", "group", "I", false)
  | _ => ("CouponDesk$Coupon", "uses", "I", false)
def tyX0 : Nat → FieldType := fun k => match k with
  | 0 => .int
  | 1 => .int
  | 2 => .int
  | 3 => .int
  | 4 => .int
  | _ => .int
abbrev wsX00 : List Cond := u_ws RX0 TX0 6
theorem nmX0 : ∀ a, a < 6 → ∀ b, b < 6 → a ≠ b → (TX0 a).2.1 ≠ (TX0 b).2.1 := by decide +kernel
theorem tyX0_ok : ∀ k, k < 6 → parseFieldDescriptor (TX0 k).2.2.1 = some (tyX0 k) := by decide +kernel
abbrev cX0_init : ByteArray := prog_2_method_1_code
def yX0_init : MethodName := ⟨RX0, "<init>", "()V"⟩
abbrev cX0_become : ByteArray := prog_2_method_2_code
def yX0_become : MethodName := ⟨RX0, "become", "(IIIII)V"⟩
abbrev cX0_isMatchedBy : ByteArray := prog_2_method_3_code
def yX0_isMatchedBy : MethodName := ⟨RX0, "isMatchedBy", "(I)Z"⟩
abbrev cX0_isReachedBy : ByteArray := prog_2_method_4_code
def yX0_isReachedBy : MethodName := ⟨RX0, "isReachedBy", "(LCouponDesk$Lot;)Z"⟩
abbrev cX0_isUsableFor : ByteArray := prog_2_method_5_code
def yX0_isUsableFor : MethodName := ⟨RX0, "isUsableFor", "(LCouponDesk$Lot;)Z"⟩
def RX1 : String := "CouponDesk$Lot"
def TX1 : u_T := fun k => match k with
  | 0 => ("CouponDesk$Lot", "prices", "[I", true)
  | 1 => ("CouponDesk$Lot", "categories", "[I", true)
  | _ => ("CouponDesk$Lot", "counts", "[I", true)
def tyX1 : Nat → FieldType := fun k => match k with
  | 0 => .array .int
  | 1 => .array .int
  | _ => .array .int
abbrev wsX10 : List Cond := u_ws RX1 TX1 3
theorem nmX1 : ∀ a, a < 3 → ∀ b, b < 3 → a ≠ b → (TX1 a).2.1 ≠ (TX1 b).2.1 := by decide +kernel
theorem tyX1_ok : ∀ k, k < 3 → parseFieldDescriptor (TX1 k).2.2.1 = some (tyX1 k) := by decide +kernel
abbrev cX1_init : ByteArray := prog_3_method_1_code
def yX1_init : MethodName := ⟨RX1, "<init>", "()V"⟩
abbrev cX1_pricesIn : ByteArray := prog_3_method_2_code
def yX1_pricesIn : MethodName := ⟨RX1, "pricesIn", "(I)I"⟩
abbrev cX1_countOfPieces : ByteArray := prog_3_method_3_code
def yX1_countOfPieces : MethodName := ⟨RX1, "countOfPieces", "()I"⟩
abbrev cX1_copyFrom : ByteArray := prog_3_method_4_code
def yX1_copyFrom : MethodName := ⟨RX1, "copyFrom", "(LCouponDesk$Lot;)V"⟩
abbrev cX1_removeAllPieces : ByteArray := prog_3_method_5_code
def yX1_removeAllPieces : MethodName := ⟨RX1, "removeAllPieces", "()V"⟩
def RX2 : String := "CouponDesk$Order"
def TX2 : u_T := fun k => match k with
  | 0 => ("CouponDesk$Order", "lot", "LCouponDesk$Lot;", true)
  | 1 => ("CouponDesk$Order", "acting", "I", false)
  | 2 => ("CouponDesk$Order", "fee", "I", false)
  | _ => ("CouponDesk$Order", "paid", "I", false)
def tyX2 : Nat → FieldType := fun k => match k with
  | 0 => .object "CouponDesk$Lot"
  | 1 => .int
  | 2 => .int
  | _ => .int
abbrev wsX20 : List Cond := u_ws RX2 TX2 4
theorem nmX2 : ∀ a, a < 4 → ∀ b, b < 4 → a ≠ b → (TX2 a).2.1 ≠ (TX2 b).2.1 := by decide +kernel
theorem tyX2_ok : ∀ k, k < 4 → parseFieldDescriptor (TX2 k).2.2.1 = some (tyX2 k) := by decide +kernel
abbrev cX2_init : ByteArray := prog_4_method_1_code
def yX2_init : MethodName := ⟨RX2, "<init>", "()V"⟩
abbrev cX2_become : ByteArray := prog_4_method_2_code
def yX2_become : MethodName := ⟨RX2, "become", "(LCouponDesk$Lot;III)V"⟩
abbrev cX2_tell : ByteArray := prog_4_method_3_code
def yX2_tell : MethodName := ⟨RX2, "tell", "(I)I"⟩
def RX3 : String := "CouponDesk$Search"
def TX3 : u_T := fun k => match k with
  | 0 => ("CouponDesk$Search", "leftOut", "I", false)
  | 1 => ("CouponDesk$Search", "usable", "I", false)
  | 2 => ("CouponDesk$Search", "bestSet", "I", false)
  | 3 => ("CouponDesk$Search", "leastTotal", "I", false)
  | _ => ("CouponDesk$Search", "leastWithout", "I", false)
def tyX3 : Nat → FieldType := fun k => match k with
  | 0 => .int
  | 1 => .int
  | 2 => .int
  | 3 => .int
  | _ => .int
abbrev wsX30 : List Cond := u_ws RX3 TX3 5
theorem nmX3 : ∀ a, a < 5 → ∀ b, b < 5 → a ≠ b → (TX3 a).2.1 ≠ (TX3 b).2.1 := by decide +kernel
theorem tyX3_ok : ∀ k, k < 5 → parseFieldDescriptor (TX3 k).2.2.1 = some (tyX3 k) := by decide +kernel
abbrev cX3_init : ByteArray := prog_5_method_1_code
def yX3_init : MethodName := ⟨RX3, "<init>", "()V"⟩
abbrev cX3_begin : ByteArray := prog_5_method_2_code
def yX3_begin : MethodName := ⟨RX3, "begin", "(II)V"⟩
abbrev cX3_offer : ByteArray := prog_5_method_3_code
def yX3_offer : MethodName := ⟨RX3, "offer", "(II)V"⟩
abbrev cX3_isBetter : ByteArray := prog_5_method_4_code
def yX3_isBetter : MethodName := ⟨RX3, "isBetter", "(II)Z"⟩
def RX4 : String := "CouponDesk$Tray"
def TX4 : u_T := fun k => match k with
  | 0 => ("CouponDesk$Tray", "articles", "[I", true)
  | 1 => ("CouponDesk$Tray", "categories", "[I", true)
  | 2 => ("CouponDesk$Tray", "rests", "[[I", true)
  | 3 => ("CouponDesk$Tray", "ranking", "[I", true)
  | _ => ("CouponDesk$Tray", "count", "I", false)
def tyX4 : Nat → FieldType := fun k => match k with
  | 0 => .array .int
  | 1 => .array .int
  | 2 => .array (.array .int)
  | 3 => .array .int
  | _ => .int
abbrev wsX40 : List Cond := u_ws RX4 TX4 5
theorem nmX4 : ∀ a, a < 5 → ∀ b, b < 5 → a ≠ b → (TX4 a).2.1 ≠ (TX4 b).2.1 := by decide +kernel
theorem tyX4_ok : ∀ k, k < 5 → parseFieldDescriptor (TX4 k).2.2.1 = some (tyX4 k) := by decide +kernel
abbrev cX4_init : ByteArray := prog_6_method_1_code
def yX4_init : MethodName := ⟨RX4, "<init>", "()V"⟩
abbrev cX4_lay : ByteArray := prog_6_method_2_code
def yX4_lay : MethodName := ⟨RX4, "lay", "(LCouponDesk$Lot;)V"⟩
abbrev cX4_copyRow : ByteArray := prog_6_method_3_code
def yX4_copyRow : MethodName := ⟨RX4, "copyRow", "(II)V"⟩
abbrev cX4_restsInRow : ByteArray := prog_6_method_4_code
def yX4_restsInRow : MethodName := ⟨RX4, "restsInRow", "(I)I"⟩
abbrev cX4_restsOfArticle : ByteArray := prog_6_method_5_code
def yX4_restsOfArticle : MethodName := ⟨RX4, "restsOfArticle", "(I)I"⟩
abbrev cX4_apply : ByteArray := prog_6_method_6_code
def yX4_apply : MethodName := ⟨RX4, "apply", "(LCouponDesk$Coupon;I)V"⟩
abbrev cX4_takePercent : ByteArray := prog_6_method_7_code
def yX4_takePercent : MethodName := ⟨RX4, "takePercent", "(LCouponDesk$Coupon;[I)V"⟩
abbrev cX4_takeAmount : ByteArray := prog_6_method_8_code
def yX4_takeAmount : MethodName := ⟨RX4, "takeAmount", "(LCouponDesk$Coupon;[I)V"⟩
abbrev cX4_matchedRests : ByteArray := prog_6_method_9_code
def yX4_matchedRests : MethodName := ⟨RX4, "matchedRests", "(LCouponDesk$Coupon;[I)I"⟩
abbrev cX4_takeOnes : ByteArray := prog_6_method_10_code
def yX4_takeOnes : MethodName := ⟨RX4, "takeOnes", "(LCouponDesk$Coupon;[II)V"⟩
abbrev cX4_takeBundles : ByteArray := prog_6_method_11_code
def yX4_takeBundles : MethodName := ⟨RX4, "takeBundles", "(LCouponDesk$Coupon;[I)V"⟩
abbrev cX4_rankMatched : ByteArray := prog_6_method_12_code
def yX4_rankMatched : MethodName := ⟨RX4, "rankMatched", "(LCouponDesk$Coupon;[I)I"⟩
def RX5 : String := "CouponDesk"
def TX5 : u_T := fun k => match k with
  | 0 => ("CouponDesk", "basket", "LCouponDesk$Lot;", true)
  | 1 => ("CouponDesk", "coupons", "[LCouponDesk$Coupon;", true)
  | 2 => ("CouponDesk", "orders", "[LCouponDesk$Order;", true)
  | 3 => ("CouponDesk", "tray", "LCouponDesk$Tray;", true)
  | 4 => ("CouponDesk", "search", "LCouponDesk$Search;", true)
  | 5 => ("CouponDesk", "articleCount", "I", false)
  | 6 => ("CouponDesk", "couponCount", "I", false)
  | 7 => ("CouponDesk", "orderCount", "I", false)
  | 8 => ("CouponDesk", "fee", "I", false)
  | _ => ("CouponDesk", "limit", "I", false)
def tyX5 : Nat → FieldType := fun k => match k with
  | 0 => .object "CouponDesk$Lot"
  | 1 => .array (.object "CouponDesk$Coupon")
  | 2 => .array (.object "CouponDesk$Order")
  | 3 => .object "CouponDesk$Tray"
  | 4 => .object "CouponDesk$Search"
  | 5 => .int
  | 6 => .int
  | 7 => .int
  | 8 => .int
  | _ => .int
abbrev wsX50 : List Cond := u_ws RX5 TX5 10
theorem nmX5 : ∀ a, a < 10 → ∀ b, b < 10 → a ≠ b → (TX5 a).2.1 ≠ (TX5 b).2.1 := by decide +kernel
theorem tyX5_ok : ∀ k, k < 10 → parseFieldDescriptor (TX5 k).2.2.1 = some (tyX5 k) := by decide +kernel
abbrev cX5_init : ByteArray := prog_1_method_1_code
def yX5_init : MethodName := ⟨RX5, "<init>", "()V"⟩
abbrev cX5_addArticle : ByteArray := prog_1_method_2_code
def yX5_addArticle : MethodName := ⟨RX5, "addArticle", "(II)I"⟩
abbrev cX5_setPrice : ByteArray := prog_1_method_3_code
def yX5_setPrice : MethodName := ⟨RX5, "setPrice", "(II)I"⟩
abbrev cX5_put : ByteArray := prog_1_method_4_code
def yX5_put : MethodName := ⟨RX5, "put", "(II)I"⟩
abbrev cX5_value : ByteArray := prog_1_method_5_code
def yX5_value : MethodName := ⟨RX5, "value", "()I"⟩
abbrev cX5_setShipping : ByteArray := prog_1_method_6_code
def yX5_setShipping : MethodName := ⟨RX5, "setShipping", "(II)I"⟩
abbrev cX5_addCoupon : ByteArray := prog_1_method_7_code
def yX5_addCoupon : MethodName := ⟨RX5, "addCoupon", "(IIIII)I"⟩
abbrev cX5_setUses : ByteArray := prog_1_method_8_code
def yX5_setUses : MethodName := ⟨RX5, "setUses", "(II)I"⟩
abbrev cX5_matching : ByteArray := prog_1_method_9_code
def yX5_matching : MethodName := ⟨RX5, "matching", "(I)I"⟩
abbrev cX5_fits : ByteArray := prog_1_method_10_code
def yX5_fits : MethodName := ⟨RX5, "fits", "(I)Z"⟩
abbrev cX5_missing : ByteArray := prog_1_method_11_code
def yX5_missing : MethodName := ⟨RX5, "missing", "(I)I"⟩
abbrev cX5_isAllowed : ByteArray := prog_1_method_12_code
def yX5_isAllowed : MethodName := ⟨RX5, "isAllowed", "(I)Z"⟩
abbrev cX5_goods : ByteArray := prog_1_method_13_code
def yX5_goods : MethodName := ⟨RX5, "goods", "(I)I"⟩
abbrev cX5_total : ByteArray := prog_1_method_14_code
def yX5_total : MethodName := ⟨RX5, "total", "(I)I"⟩
abbrev cX5_rest : ByteArray := prog_1_method_15_code
def yX5_rest : MethodName := ⟨RX5, "rest", "(II)I"⟩
abbrev cX5_best : ByteArray := prog_1_method_16_code
def yX5_best : MethodName := ⟨RX5, "best", "()I"⟩
abbrev cX5_worth : ByteArray := prog_1_method_17_code
def yX5_worth : MethodName := ⟨RX5, "worth", "(I)I"⟩
abbrev cX5_buy : ByteArray := prog_1_method_18_code
def yX5_buy : MethodName := ⟨RX5, "buy", "(I)I"⟩
abbrev cX5_giveBack : ByteArray := prog_1_method_19_code
def yX5_giveBack : MethodName := ⟨RX5, "giveBack", "(III)I"⟩
abbrev cX5_orderCount : ByteArray := prog_1_method_20_code
def yX5_orderCount : MethodName := ⟨RX5, "orderCount", "()I"⟩
abbrev cX5_order : ByteArray := prog_1_method_21_code
def yX5_order : MethodName := ⟨RX5, "order", "(II)I"⟩
abbrev cX5_pieces : ByteArray := prog_1_method_22_code
def yX5_pieces : MethodName := ⟨RX5, "pieces", "(II)I"⟩
abbrev cX5_level : ByteArray := prog_1_method_23_code
def yX5_level : MethodName := ⟨RX5, "level", "()D"⟩
abbrev cX5_digest : ByteArray := prog_1_method_24_code
def yX5_digest : MethodName := ⟨RX5, "digest", "()J"⟩
abbrev cX5_needArticle : ByteArray := prog_1_method_25_code
def yX5_needArticle : MethodName := ⟨RX5, "needArticle", "(I)V"⟩
abbrev cX5_needCoupon : ByteArray := prog_1_method_26_code
def yX5_needCoupon : MethodName := ⟨RX5, "needCoupon", "(I)V"⟩
abbrev cX5_needOrder : ByteArray := prog_1_method_27_code
def yX5_needOrder : MethodName := ⟨RX5, "needOrder", "(I)V"⟩
abbrev cX5_needPrice : ByteArray := prog_1_method_28_code
def yX5_needPrice : MethodName := ⟨RX5, "needPrice", "(I)V"⟩
abbrev cX5_needCoupons : ByteArray := prog_1_method_29_code
def yX5_needCoupons : MethodName := ⟨RX5, "needCoupons", "(I)V"⟩
abbrev cX5_needAllowed : ByteArray := prog_1_method_30_code
def yX5_needAllowed : MethodName := ⟨RX5, "needAllowed", "(I)V"⟩
abbrev cX5_isValueOfKind : ByteArray := prog_1_method_31_code
def yX5_isValueOfKind : MethodName := ⟨RX5, "isValueOfKind", "(II)Z"⟩
abbrev cX5_contains : ByteArray := prog_1_method_32_code
def yX5_contains : MethodName := ⟨RX5, "contains", "(II)Z"⟩
abbrev cX5_isSetAllowed : ByteArray := prog_1_method_33_code
def yX5_isSetAllowed : MethodName := ⟨RX5, "isSetAllowed", "(I)Z"⟩
abbrev cX5_isGroupFree : ByteArray := prog_1_method_34_code
def yX5_isGroupFree : MethodName := ⟨RX5, "isGroupFree", "(II)Z"⟩
abbrev cX5_usableForBasket : ByteArray := prog_1_method_35_code
def yX5_usableForBasket : MethodName := ⟨RX5, "usableForBasket", "()I"⟩
abbrev cX5_stillReached : ByteArray := prog_1_method_36_code
def yX5_stillReached : MethodName := ⟨RX5, "stillReached", "(LCouponDesk$Order;)I"⟩
abbrev cX5_useUp : ByteArray := prog_1_method_37_code
def yX5_useUp : MethodName := ⟨RX5, "useUp", "(I)V"⟩
abbrev cX5_layAndApply : ByteArray := prog_1_method_38_code
def yX5_layAndApply : MethodName := ⟨RX5, "layAndApply", "(LCouponDesk$Lot;I)V"⟩
abbrev cX5_goodsOf : ByteArray := prog_1_method_39_code
def yX5_goodsOf : MethodName := ⟨RX5, "goodsOf", "(LCouponDesk$Lot;I)I"⟩
abbrev cX5_feeFor : ByteArray := prog_1_method_40_code
def yX5_feeFor : MethodName := ⟨RX5, "feeFor", "(II)I"⟩
abbrev cX5_hasFreight : ByteArray := prog_1_method_41_code
def yX5_hasFreight : MethodName := ⟨RX5, "hasFreight", "(I)Z"⟩
abbrev cX5_searchSets : ByteArray := prog_1_method_42_code
def yX5_searchSets : MethodName := ⟨RX5, "searchSets", "(I)V"⟩
abbrev cX5_extend : ByteArray := prog_1_method_43_code
def yX5_extend : MethodName := ⟨RX5, "extend", "(LCouponDesk;III)V"⟩
abbrev cX5_mix : ByteArray := prog_1_method_44_code
def yX5_mix : MethodName := ⟨RX5, "mix", "(JI)J"⟩
abbrev cX5_digestArticles : ByteArray := prog_1_method_45_code
def yX5_digestArticles : MethodName := ⟨RX5, "digestArticles", "(J)J"⟩
abbrev cX5_digestCoupons : ByteArray := prog_1_method_46_code
def yX5_digestCoupons : MethodName := ⟨RX5, "digestCoupons", "(J)J"⟩
abbrev cX5_digestOrders : ByteArray := prog_1_method_47_code
def yX5_digestOrders : MethodName := ⟨RX5, "digestOrders", "(J)J"⟩
def RX6 : String := "CouponDeskModel"
def TX6 : u_T := fun k => match k with
  | 0 => ("CouponDeskModel", "thrown", "I", false)
  | 1 => ("CouponDeskModel", "articles", "I", false)
  | 2 => ("CouponDeskModel", "categories", "[I", true)
  | 3 => ("CouponDeskModel", "counts", "[I", true)
  | 4 => ("CouponDeskModel", "prices", "[I", true)
  | 5 => ("CouponDeskModel", "fee", "I", false)
  | 6 => ("CouponDeskModel", "limit", "I", false)
  | 7 => ("CouponDeskModel", "coupons", "I", false)
  | 8 => ("CouponDeskModel", "table", "[I", true)
  | 9 => ("CouponDeskModel", "orders", "I", false)
  | 10 => ("CouponDeskModel", "paid", "[I", true)
  | 11 => ("CouponDeskModel", "fees", "[I", true)
  | 12 => ("CouponDeskModel", "acting", "[I", true)
  | 13 => ("CouponDeskModel", "pieces", "I", false)
  | 14 => ("CouponDeskModel", "articleOf", "[I", true)
  | _ => ("CouponDeskModel", "rests", "[I", true)
def tyX6 : Nat → FieldType := fun k => match k with
  | 0 => .int
  | 1 => .int
  | 2 => .array .int
  | 3 => .array .int
  | 4 => .array .int
  | 5 => .int
  | 6 => .int
  | 7 => .int
  | 8 => .array .int
  | 9 => .int
  | 10 => .array .int
  | 11 => .array .int
  | 12 => .array .int
  | 13 => .int
  | 14 => .array .int
  | _ => .array .int
abbrev wsX60 : List Cond := u_ws RX6 TX6 16
theorem nmX6 : ∀ a, a < 16 → ∀ b, b < 16 → a ≠ b → (TX6 a).2.1 ≠ (TX6 b).2.1 := by decide +kernel
theorem tyX6_ok : ∀ k, k < 16 → parseFieldDescriptor (TX6 k).2.2.1 = some (tyX6 k) := by decide +kernel
abbrev cX6_init : ByteArray := prog_8_method_1_code
def yX6_init : MethodName := ⟨RX6, "<init>", "()V"⟩
abbrev cX6_thrown : ByteArray := prog_8_method_2_code
def yX6_thrown : MethodName := ⟨RX6, "thrown", "()I"⟩
abbrev cX6_fail : ByteArray := prog_8_method_3_code
def yX6_fail : MethodName := ⟨RX6, "fail", "(I)I"⟩
abbrev cX6_isIn : ByteArray := prog_8_method_4_code
def yX6_isIn : MethodName := ⟨RX6, "isIn", "(III)Z"⟩
abbrev cX6_isArticle : ByteArray := prog_8_method_5_code
def yX6_isArticle : MethodName := ⟨RX6, "isArticle", "(I)Z"⟩
abbrev cX6_isCoupon : ByteArray := prog_8_method_6_code
def yX6_isCoupon : MethodName := ⟨RX6, "isCoupon", "(I)Z"⟩
abbrev cX6_isOrder : ByteArray := prog_8_method_7_code
def yX6_isOrder : MethodName := ⟨RX6, "isOrder", "(I)Z"⟩
abbrev cX6_areCoupons : ByteArray := prog_8_method_8_code
def yX6_areCoupons : MethodName := ⟨RX6, "areCoupons", "(I)Z"⟩
abbrev cX6_has : ByteArray := prog_8_method_9_code
def yX6_has : MethodName := ⟨RX6, "has", "(II)Z"⟩
abbrev cX6_addArticle : ByteArray := prog_8_method_10_code
def yX6_addArticle : MethodName := ⟨RX6, "addArticle", "(II)I"⟩
abbrev cX6_setPrice : ByteArray := prog_8_method_11_code
def yX6_setPrice : MethodName := ⟨RX6, "setPrice", "(II)I"⟩
abbrev cX6_put : ByteArray := prog_8_method_12_code
def yX6_put : MethodName := ⟨RX6, "put", "(II)I"⟩
abbrev cX6_valueOf : ByteArray := prog_8_method_13_code
def yX6_valueOf : MethodName := ⟨RX6, "valueOf", "(I)I"⟩
abbrev cX6_sizeOf : ByteArray := prog_8_method_14_code
def yX6_sizeOf : MethodName := ⟨RX6, "sizeOf", "(I)I"⟩
abbrev cX6_value : ByteArray := prog_8_method_15_code
def yX6_value : MethodName := ⟨RX6, "value", "()I"⟩
abbrev cX6_setShipping : ByteArray := prog_8_method_16_code
def yX6_setShipping : MethodName := ⟨RX6, "setShipping", "(II)I"⟩
abbrev cX6_isValue : ByteArray := prog_8_method_17_code
def yX6_isValue : MethodName := ⟨RX6, "isValue", "(II)Z"⟩
abbrev cX6_addCoupon : ByteArray := prog_8_method_18_code
def yX6_addCoupon : MethodName := ⟨RX6, "addCoupon", "(IIIII)I"⟩
abbrev cX6_setUses : ByteArray := prog_8_method_19_code
def yX6_setUses : MethodName := ⟨RX6, "setUses", "(II)I"⟩
abbrev cX6_isMatch : ByteArray := prog_8_method_20_code
def yX6_isMatch : MethodName := ⟨RX6, "isMatch", "(II)Z"⟩
abbrev cX6_matchingIn : ByteArray := prog_8_method_21_code
def yX6_matchingIn : MethodName := ⟨RX6, "matchingIn", "(II)I"⟩
abbrev cX6_fitsIn : ByteArray := prog_8_method_22_code
def yX6_fitsIn : MethodName := ⟨RX6, "fitsIn", "(II)Z"⟩
abbrev cX6_fitsNow : ByteArray := prog_8_method_23_code
def yX6_fitsNow : MethodName := ⟨RX6, "fitsNow", "(I)Z"⟩
abbrev cX6_isAllowedNow : ByteArray := prog_8_method_24_code
def yX6_isAllowedNow : MethodName := ⟨RX6, "isAllowedNow", "(I)Z"⟩
abbrev cX6_matching : ByteArray := prog_8_method_25_code
def yX6_matching : MethodName := ⟨RX6, "matching", "(I)I"⟩
abbrev cX6_fits : ByteArray := prog_8_method_26_code
def yX6_fits : MethodName := ⟨RX6, "fits", "(I)Z"⟩
abbrev cX6_missing : ByteArray := prog_8_method_27_code
def yX6_missing : MethodName := ⟨RX6, "missing", "(I)I"⟩
abbrev cX6_isAllowed : ByteArray := prog_8_method_28_code
def yX6_isAllowed : MethodName := ⟨RX6, "isAllowed", "(I)Z"⟩
abbrev cX6_lay : ByteArray := prog_8_method_29_code
def yX6_lay : MethodName := ⟨RX6, "lay", "(I)V"⟩
abbrev cX6_takePercent : ByteArray := prog_8_method_30_code
def yX6_takePercent : MethodName := ⟨RX6, "takePercent", "(II)V"⟩
abbrev cX6_takeAmount : ByteArray := prog_8_method_31_code
def yX6_takeAmount : MethodName := ⟨RX6, "takeAmount", "(II)V"⟩
abbrev cX6_takeBundle : ByteArray := prog_8_method_32_code
def yX6_takeBundle : MethodName := ⟨RX6, "takeBundle", "(II)V"⟩
abbrev cX6_goodsOf : ByteArray := prog_8_method_33_code
def yX6_goodsOf : MethodName := ⟨RX6, "goodsOf", "(II)I"⟩
abbrev cX6_feeFor : ByteArray := prog_8_method_34_code
def yX6_feeFor : MethodName := ⟨RX6, "feeFor", "(II)I"⟩
abbrev cX6_totalOf : ByteArray := prog_8_method_35_code
def yX6_totalOf : MethodName := ⟨RX6, "totalOf", "(I)I"⟩
abbrev cX6_goods : ByteArray := prog_8_method_36_code
def yX6_goods : MethodName := ⟨RX6, "goods", "(I)I"⟩
abbrev cX6_total : ByteArray := prog_8_method_37_code
def yX6_total : MethodName := ⟨RX6, "total", "(I)I"⟩
abbrev cX6_rest : ByteArray := prog_8_method_38_code
def yX6_rest : MethodName := ⟨RX6, "rest", "(II)I"⟩
abbrev cX6_bestSet : ByteArray := prog_8_method_39_code
def yX6_bestSet : MethodName := ⟨RX6, "bestSet", "()I"⟩
abbrev cX6_best : ByteArray := prog_8_method_40_code
def yX6_best : MethodName := ⟨RX6, "best", "()I"⟩
abbrev cX6_worth : ByteArray := prog_8_method_41_code
def yX6_worth : MethodName := ⟨RX6, "worth", "(I)I"⟩
abbrev cX6_buy : ByteArray := prog_8_method_42_code
def yX6_buy : MethodName := ⟨RX6, "buy", "(I)I"⟩
abbrev cX6_giveBack : ByteArray := prog_8_method_43_code
def yX6_giveBack : MethodName := ⟨RX6, "giveBack", "(III)I"⟩
abbrev cX6_orderCount : ByteArray := prog_8_method_44_code
def yX6_orderCount : MethodName := ⟨RX6, "orderCount", "()I"⟩
abbrev cX6_told : ByteArray := prog_8_method_45_code
def yX6_told : MethodName := ⟨RX6, "told", "(II)I"⟩
abbrev cX6_order : ByteArray := prog_8_method_46_code
def yX6_order : MethodName := ⟨RX6, "order", "(II)I"⟩
abbrev cX6_pieces : ByteArray := prog_8_method_47_code
def yX6_pieces : MethodName := ⟨RX6, "pieces", "(II)I"⟩
abbrev cX6_level : ByteArray := prog_8_method_48_code
def yX6_level : MethodName := ⟨RX6, "level", "()D"⟩
abbrev cX6_digest : ByteArray := prog_8_method_49_code
def yX6_digest : MethodName := ⟨RX6, "digest", "()J"⟩
def RJx145de : String := "java/io/Serializable"
def TJx145de : u_T := fun k => match k with
  | _ => ("", "", "", false)
def tyJx145de : Nat → FieldType := fun k => match k with
  | _ => .int
theorem nmJx145de : ∀ a, a < 0 → ∀ b, b < 0 → a ≠ b → (TJx145de a).2.1 ≠ (TJx145de b).2.1 := by decide +kernel
theorem tyJx145de_ok : ∀ k, k < 0 → parseFieldDescriptor (TJx145de k).2.2.1 = some (tyJx145de k) := by decide +kernel
def RJ6 : String := "java/lang/Integer"
def TJ6 : u_T := fun k => match k with
  | _ => ("", "", "", false)
def tyJ6 : Nat → FieldType := fun k => match k with
  | _ => .int
abbrev wsJ60 : List Cond := u_ws RJ6 TJ6 0
theorem nmJ6 : ∀ a, a < 0 → ∀ b, b < 0 → a ≠ b → (TJ6 a).2.1 ≠ (TJ6 b).2.1 := by decide +kernel
theorem tyJ6_ok : ∀ k, k < 0 → parseFieldDescriptor (TJ6 k).2.2.1 = some (tyJ6 k) := by decide +kernel
abbrev cJ6_bitCount_0f7a4 : ByteArray := prog_13_method_49_code
def yJ6_bitCount_0f7a4 : MethodName := ⟨RJ6, "bitCount", "(I)I"⟩
def RJ9 : String := "java/lang/Math"
def TJ9 : u_T := fun k => match k with
  | _ => ("", "", "", false)
def tyJ9 : Nat → FieldType := fun k => match k with
  | _ => .int
abbrev wsJ90 : List Cond := u_ws RJ9 TJ9 0
theorem nmJ9 : ∀ a, a < 0 → ∀ b, b < 0 → a ≠ b → (TJ9 a).2.1 ≠ (TJ9 b).2.1 := by decide +kernel
theorem tyJ9_ok : ∀ k, k < 0 → parseFieldDescriptor (TJ9 k).2.2.1 = some (tyJ9 k) := by decide +kernel
abbrev cJ9_max_7cf53 : ByteArray := prog_14_method_65_code
def yJ9_max_7cf53 : MethodName := ⟨RJ9, "max", "(II)I"⟩
abbrev cJ9_min_7cf53 : ByteArray := prog_14_method_69_code
def yJ9_min_7cf53 : MethodName := ⟨RJ9, "min", "(II)I"⟩
abbrev cJ9_min_f86c9 : ByteArray := prog_14_method_70_code
def yJ9_min_f86c9 : MethodName := ⟨RJ9, "min", "(JJ)J"⟩
def RJ0 : String := "java/lang/String"
def TJ0 : u_T := fun k => match k with
  | _ => ("", "", "", false)
def tyJ0 : Nat → FieldType := fun k => match k with
  | _ => .int
abbrev wsJ00 : List Cond := u_ws RJ0 TJ0 0
theorem nmJ0 : ∀ a, a < 0 → ∀ b, b < 0 → a ≠ b → (TJ0 a).2.1 ≠ (TJ0 b).2.1 := by decide +kernel
theorem tyJ0_ok : ∀ k, k < 0 → parseFieldDescriptor (TJ0 k).2.2.1 = some (tyJ0 k) := by decide +kernel
def RJ10 : String := "java/lang/System"
def TJ10 : u_T := fun k => match k with
  | _ => ("", "", "", false)
def tyJ10 : Nat → FieldType := fun k => match k with
  | _ => .int
abbrev wsJ100 : List Cond := u_ws RJ10 TJ10 0
theorem nmJ10 : ∀ a, a < 0 → ∀ b, b < 0 → a ≠ b → (TJ10 a).2.1 ≠ (TJ10 b).2.1 := by decide +kernel
theorem tyJ10_ok : ∀ k, k < 0 → parseFieldDescriptor (TJ10 k).2.2.1 = some (tyJ10 k) := by decide +kernel
def RJ7 : String := "java/util/Arrays"
def TJ7 : u_T := fun k => match k with
  | _ => ("", "", "", false)
def tyJ7 : Nat → FieldType := fun k => match k with
  | _ => .int
abbrev wsJ70 : List Cond := u_ws RJ7 TJ7 0
theorem nmJ7 : ∀ a, a < 0 → ∀ b, b < 0 → a ≠ b → (TJ7 a).2.1 ≠ (TJ7 b).2.1 := by decide +kernel
theorem tyJ7_ok : ∀ k, k < 0 → parseFieldDescriptor (TJ7 k).2.2.1 = some (tyJ7 k) := by decide +kernel
abbrev cJ7_fill_53178 : ByteArray := prog_19_method_103_code
def yJ7_fill_53178 : MethodName := ⟨RJ7, "fill", "([II)V"⟩
def RL : String := "CouponDeskLaw"
abbrev cL_addArticle : ByteArray := method_3_code
def yL_addArticle : MethodName := ⟨RL, "addArticle", "(LCouponDesk;II[J)I"⟩
abbrev cL_setPrice : ByteArray := method_4_code
def yL_setPrice : MethodName := ⟨RL, "setPrice", "(LCouponDesk;II[J)I"⟩
abbrev cL_put : ByteArray := method_5_code
def yL_put : MethodName := ⟨RL, "put", "(LCouponDesk;II[J)I"⟩
abbrev cL_setShipping : ByteArray := method_6_code
def yL_setShipping : MethodName := ⟨RL, "setShipping", "(LCouponDesk;II[J)I"⟩
abbrev cL_addCoupon : ByteArray := method_7_code
def yL_addCoupon : MethodName := ⟨RL, "addCoupon", "(LCouponDesk;IIIII[J)I"⟩
abbrev cL_setUses : ByteArray := method_8_code
def yL_setUses : MethodName := ⟨RL, "setUses", "(LCouponDesk;II[J)I"⟩
abbrev cL_matching : ByteArray := method_9_code
def yL_matching : MethodName := ⟨RL, "matching", "(LCouponDesk;I[J)I"⟩
abbrev cL_fits : ByteArray := method_10_code
def yL_fits : MethodName := ⟨RL, "fits", "(LCouponDesk;I[J)I"⟩
abbrev cL_missing : ByteArray := method_11_code
def yL_missing : MethodName := ⟨RL, "missing", "(LCouponDesk;I[J)I"⟩
abbrev cL_isAllowed : ByteArray := method_12_code
def yL_isAllowed : MethodName := ⟨RL, "isAllowed", "(LCouponDesk;I[J)I"⟩
abbrev cL_goods : ByteArray := method_13_code
def yL_goods : MethodName := ⟨RL, "goods", "(LCouponDesk;I[J)I"⟩
abbrev cL_total : ByteArray := method_14_code
def yL_total : MethodName := ⟨RL, "total", "(LCouponDesk;I[J)I"⟩
abbrev cL_rest : ByteArray := method_15_code
def yL_rest : MethodName := ⟨RL, "rest", "(LCouponDesk;II[J)I"⟩
abbrev cL_worth : ByteArray := method_16_code
def yL_worth : MethodName := ⟨RL, "worth", "(LCouponDesk;I[J)I"⟩
abbrev cL_buy : ByteArray := method_17_code
def yL_buy : MethodName := ⟨RL, "buy", "(LCouponDesk;I[J)I"⟩
abbrev cL_giveBack : ByteArray := method_18_code
def yL_giveBack : MethodName := ⟨RL, "giveBack", "(LCouponDesk;III[J)I"⟩
abbrev cL_order : ByteArray := method_19_code
def yL_order : MethodName := ⟨RL, "order", "(LCouponDesk;II[J)I"⟩
abbrev cL_pieces : ByteArray := method_20_code
def yL_pieces : MethodName := ⟨RL, "pieces", "(LCouponDesk;II[J)I"⟩
abbrev cL_law : ByteArray := code
def yL_law : MethodName := ⟨RL, "law", "([I)Z"⟩
theorem dX0_init_0 : decode cX0_init 0 = .ok (.aload_n 0, 1) := by decide +kernel
theorem dX0_init_1 : decode cX0_init 1 = .ok (.invokespecial 3, 3) := by decide +kernel
theorem dX0_init_4 : decode cX0_init 4 = .ok (.aload_n 0, 1) := by decide +kernel
theorem dX0_init_5 : decode cX0_init 5 = .ok (.iconst 0, 1) := by decide +kernel
theorem dX0_init_6 : decode cX0_init 6 = .ok (.putfield 9, 3) := by decide +kernel
theorem dX0_init_9 : decode cX0_init 9 = .ok (.aload_n 0, 1) := by decide +kernel
theorem dX0_init_10 : decode cX0_init 10 = .ok (.iconst 0, 1) := by decide +kernel
theorem dX0_init_11 : decode cX0_init 11 = .ok (.putfield 15, 3) := by decide +kernel
theorem dX0_init_14 : decode cX0_init 14 = .ok (.aload_n 0, 1) := by decide +kernel
theorem dX0_init_15 : decode cX0_init 15 = .ok (.iconst 0, 1) := by decide +kernel
theorem dX0_init_16 : decode cX0_init 16 = .ok (.putfield 18, 3) := by decide +kernel
theorem dX0_init_19 : decode cX0_init 19 = .ok (.aload_n 0, 1) := by decide +kernel
theorem dX0_init_20 : decode cX0_init 20 = .ok (.iconst 0, 1) := by decide +kernel
theorem dX0_init_21 : decode cX0_init 21 = .ok (.putfield 21, 3) := by decide +kernel
theorem dX0_init_24 : decode cX0_init 24 = .ok (.aload_n 0, 1) := by decide +kernel
theorem dX0_init_25 : decode cX0_init 25 = .ok (.iconst 0, 1) := by decide +kernel
theorem dX0_init_26 : decode cX0_init 26 = .ok (.putfield 24, 3) := by decide +kernel
theorem dX0_init_29 : decode cX0_init 29 = .ok (.aload_n 0, 1) := by decide +kernel
theorem dX0_init_30 : decode cX0_init 30 = .ok (.iconst 0, 1) := by decide +kernel
theorem dX0_init_31 : decode cX0_init 31 = .ok (.putfield 27, 3) := by decide +kernel
theorem dX0_init_34 : decode cX0_init 34 = .ok (.return_, 1) := by decide +kernel
theorem dX0_become_0 : decode cX0_become 0 = .ok (.aload_n 0, 1) := by decide +kernel
theorem dX0_become_1 : decode cX0_become 1 = .ok (.iload_n 1, 1) := by decide +kernel
theorem dX0_become_2 : decode cX0_become 2 = .ok (.putfield 9, 3) := by decide +kernel
theorem dX0_become_5 : decode cX0_become 5 = .ok (.aload_n 0, 1) := by decide +kernel
theorem dX0_become_6 : decode cX0_become 6 = .ok (.iload_n 2, 1) := by decide +kernel
theorem dX0_become_7 : decode cX0_become 7 = .ok (.putfield 15, 3) := by decide +kernel
theorem dX0_become_10 : decode cX0_become 10 = .ok (.aload_n 0, 1) := by decide +kernel
theorem dX0_become_11 : decode cX0_become 11 = .ok (.iload_n 3, 1) := by decide +kernel
theorem dX0_become_12 : decode cX0_become 12 = .ok (.putfield 18, 3) := by decide +kernel
theorem dX0_become_15 : decode cX0_become 15 = .ok (.aload_n 0, 1) := by decide +kernel
theorem dX0_become_16 : decode cX0_become 16 = .ok (.iload 4, 2) := by decide +kernel
theorem dX0_become_18 : decode cX0_become 18 = .ok (.putfield 21, 3) := by decide +kernel
theorem dX0_become_21 : decode cX0_become 21 = .ok (.aload_n 0, 1) := by decide +kernel
theorem dX0_become_22 : decode cX0_become 22 = .ok (.iload 5, 2) := by decide +kernel
theorem dX0_become_24 : decode cX0_become 24 = .ok (.putfield 24, 3) := by decide +kernel
theorem dX0_become_27 : decode cX0_become 27 = .ok (.aload_n 0, 1) := by decide +kernel
theorem dX0_become_28 : decode cX0_become 28 = .ok (.bipush 9, 2) := by decide +kernel
theorem dX0_become_30 : decode cX0_become 30 = .ok (.putfield 27, 3) := by decide +kernel
theorem dX0_become_33 : decode cX0_become 33 = .ok (.return_, 1) := by decide +kernel
theorem dX0_isMatchedBy_0 : decode cX0_isMatchedBy 0 = .ok (.aload_n 0, 1) := by decide +kernel
theorem dX0_isMatchedBy_1 : decode cX0_isMatchedBy 1 = .ok (.getfield 18, 3) := by decide +kernel
theorem dX0_isMatchedBy_4 : decode cX0_isMatchedBy 4 = .ok (.iload_n 1, 1) := by decide +kernel
theorem dX0_isMatchedBy_5 : decode cX0_isMatchedBy 5 = .ok (.ishr, 1) := by decide +kernel
theorem dX0_isMatchedBy_6 : decode cX0_isMatchedBy 6 = .ok (.iconst 1, 1) := by decide +kernel
theorem dX0_isMatchedBy_7 : decode cX0_isMatchedBy 7 = .ok (.iand, 1) := by decide +kernel
theorem dX0_isMatchedBy_8 : decode cX0_isMatchedBy 8 = .ok (.ifCond .eq 7, 3) := by decide +kernel
theorem dX0_isMatchedBy_11 : decode cX0_isMatchedBy 11 = .ok (.iconst 1, 1) := by decide +kernel
theorem dX0_isMatchedBy_12 : decode cX0_isMatchedBy 12 = .ok (.goto 4, 3) := by decide +kernel
theorem dX0_isMatchedBy_15 : decode cX0_isMatchedBy 15 = .ok (.iconst 0, 1) := by decide +kernel
theorem dX0_isMatchedBy_16 : decode cX0_isMatchedBy 16 = .ok (.ireturn, 1) := by decide +kernel
theorem dX0_isReachedBy_0 : decode cX0_isReachedBy 0 = .ok (.aload_n 1, 1) := by decide +kernel
theorem dX0_isReachedBy_1 : decode cX0_isReachedBy 1 = .ok (.aload_n 0, 1) := by decide +kernel
theorem dX0_isReachedBy_2 : decode cX0_isReachedBy 2 = .ok (.getfield 18, 3) := by decide +kernel
theorem dX0_isReachedBy_5 : decode cX0_isReachedBy 5 = .ok (.invokevirtual 30, 3) := by decide +kernel
theorem dX0_isReachedBy_8 : decode cX0_isReachedBy 8 = .ok (.istore_n 2, 1) := by decide +kernel
theorem dX0_isReachedBy_9 : decode cX0_isReachedBy 9 = .ok (.iload_n 2, 1) := by decide +kernel
theorem dX0_isReachedBy_10 : decode cX0_isReachedBy 10 = .ok (.ifCond .le 15, 3) := by decide +kernel
theorem dX0_isReachedBy_13 : decode cX0_isReachedBy 13 = .ok (.iload_n 2, 1) := by decide +kernel
theorem dX0_isReachedBy_14 : decode cX0_isReachedBy 14 = .ok (.aload_n 0, 1) := by decide +kernel
theorem dX0_isReachedBy_15 : decode cX0_isReachedBy 15 = .ok (.getfield 21, 3) := by decide +kernel
theorem dX0_isReachedBy_18 : decode cX0_isReachedBy 18 = .ok (.if_icmp .lt 7, 3) := by decide +kernel
theorem dX0_isReachedBy_21 : decode cX0_isReachedBy 21 = .ok (.iconst 1, 1) := by decide +kernel
theorem dX0_isReachedBy_22 : decode cX0_isReachedBy 22 = .ok (.goto 4, 3) := by decide +kernel
theorem dX0_isReachedBy_25 : decode cX0_isReachedBy 25 = .ok (.iconst 0, 1) := by decide +kernel
theorem dX0_isReachedBy_26 : decode cX0_isReachedBy 26 = .ok (.ireturn, 1) := by decide +kernel
theorem dX0_isUsableFor_0 : decode cX0_isUsableFor 0 = .ok (.aload_n 0, 1) := by decide +kernel
theorem dX0_isUsableFor_1 : decode cX0_isUsableFor 1 = .ok (.getfield 27, 3) := by decide +kernel
theorem dX0_isUsableFor_4 : decode cX0_isUsableFor 4 = .ok (.ifCond .le 15, 3) := by decide +kernel
theorem dX0_isUsableFor_7 : decode cX0_isUsableFor 7 = .ok (.aload_n 0, 1) := by decide +kernel
theorem dX0_isUsableFor_8 : decode cX0_isUsableFor 8 = .ok (.aload_n 1, 1) := by decide +kernel
theorem dX0_isUsableFor_9 : decode cX0_isUsableFor 9 = .ok (.invokevirtual 36, 3) := by decide +kernel
theorem dX0_isUsableFor_12 : decode cX0_isUsableFor 12 = .ok (.ifCond .eq 7, 3) := by decide +kernel
theorem dX0_isUsableFor_15 : decode cX0_isUsableFor 15 = .ok (.iconst 1, 1) := by decide +kernel
theorem dX0_isUsableFor_16 : decode cX0_isUsableFor 16 = .ok (.goto 4, 3) := by decide +kernel
theorem dX0_isUsableFor_19 : decode cX0_isUsableFor 19 = .ok (.iconst 0, 1) := by decide +kernel
theorem dX0_isUsableFor_20 : decode cX0_isUsableFor 20 = .ok (.ireturn, 1) := by decide +kernel
theorem dX1_init_0 : decode cX1_init 0 = .ok (.aload_n 0, 1) := by decide +kernel
theorem dX1_init_1 : decode cX1_init 1 = .ok (.invokespecial 3, 3) := by decide +kernel
theorem dX1_init_4 : decode cX1_init 4 = .ok (.aload_n 0, 1) := by decide +kernel
theorem dX1_init_5 : decode cX1_init 5 = .ok (.bipush 10, 2) := by decide +kernel
theorem dX1_init_7 : decode cX1_init 7 = .ok (.newarray .int, 2) := by decide +kernel
theorem dX1_init_9 : decode cX1_init 9 = .ok (.putfield 9, 3) := by decide +kernel
theorem dX1_init_12 : decode cX1_init 12 = .ok (.aload_n 0, 1) := by decide +kernel
theorem dX1_init_13 : decode cX1_init 13 = .ok (.bipush 10, 2) := by decide +kernel
theorem dX1_init_15 : decode cX1_init 15 = .ok (.newarray .int, 2) := by decide +kernel
theorem dX1_init_17 : decode cX1_init 17 = .ok (.putfield 15, 3) := by decide +kernel
theorem dX1_init_20 : decode cX1_init 20 = .ok (.aload_n 0, 1) := by decide +kernel
theorem dX1_init_21 : decode cX1_init 21 = .ok (.bipush 10, 2) := by decide +kernel
theorem dX1_init_23 : decode cX1_init 23 = .ok (.newarray .int, 2) := by decide +kernel
theorem dX1_init_25 : decode cX1_init 25 = .ok (.putfield 18, 3) := by decide +kernel
theorem dX1_init_28 : decode cX1_init 28 = .ok (.return_, 1) := by decide +kernel
theorem dX1_pricesIn_0 : decode cX1_pricesIn 0 = .ok (.iconst 0, 1) := by decide +kernel
theorem dX1_pricesIn_1 : decode cX1_pricesIn 1 = .ok (.istore_n 2, 1) := by decide +kernel
theorem dX1_pricesIn_2 : decode cX1_pricesIn 2 = .ok (.iconst 0, 1) := by decide +kernel
theorem dX1_pricesIn_3 : decode cX1_pricesIn 3 = .ok (.istore_n 3, 1) := by decide +kernel
theorem dX1_pricesIn_4 : decode cX1_pricesIn 4 = .ok (.iload_n 3, 1) := by decide +kernel
theorem dX1_pricesIn_5 : decode cX1_pricesIn 5 = .ok (.bipush 10, 2) := by decide +kernel
theorem dX1_pricesIn_7 : decode cX1_pricesIn 7 = .ok (.if_icmp .ge 38, 3) := by decide +kernel
theorem dX1_pricesIn_10 : decode cX1_pricesIn 10 = .ok (.iload_n 1, 1) := by decide +kernel
theorem dX1_pricesIn_11 : decode cX1_pricesIn 11 = .ok (.aload_n 0, 1) := by decide +kernel
theorem dX1_pricesIn_12 : decode cX1_pricesIn 12 = .ok (.getfield 15, 3) := by decide +kernel
theorem dX1_pricesIn_15 : decode cX1_pricesIn 15 = .ok (.iload_n 3, 1) := by decide +kernel
theorem dX1_pricesIn_16 : decode cX1_pricesIn 16 = .ok (.iaload, 1) := by decide +kernel
theorem dX1_pricesIn_17 : decode cX1_pricesIn 17 = .ok (.ishr, 1) := by decide +kernel
theorem dX1_pricesIn_18 : decode cX1_pricesIn 18 = .ok (.iconst 1, 1) := by decide +kernel
theorem dX1_pricesIn_19 : decode cX1_pricesIn 19 = .ok (.iand, 1) := by decide +kernel
theorem dX1_pricesIn_20 : decode cX1_pricesIn 20 = .ok (.ifCond .eq 19, 3) := by decide +kernel
theorem dX1_pricesIn_23 : decode cX1_pricesIn 23 = .ok (.iload_n 2, 1) := by decide +kernel
theorem dX1_pricesIn_24 : decode cX1_pricesIn 24 = .ok (.aload_n 0, 1) := by decide +kernel
theorem dX1_pricesIn_25 : decode cX1_pricesIn 25 = .ok (.getfield 9, 3) := by decide +kernel
theorem dX1_pricesIn_28 : decode cX1_pricesIn 28 = .ok (.iload_n 3, 1) := by decide +kernel
theorem dX1_pricesIn_29 : decode cX1_pricesIn 29 = .ok (.iaload, 1) := by decide +kernel
theorem dX1_pricesIn_30 : decode cX1_pricesIn 30 = .ok (.aload_n 0, 1) := by decide +kernel
theorem dX1_pricesIn_31 : decode cX1_pricesIn 31 = .ok (.getfield 18, 3) := by decide +kernel
theorem dX1_pricesIn_34 : decode cX1_pricesIn 34 = .ok (.iload_n 3, 1) := by decide +kernel
theorem dX1_pricesIn_35 : decode cX1_pricesIn 35 = .ok (.iaload, 1) := by decide +kernel
theorem dX1_pricesIn_36 : decode cX1_pricesIn 36 = .ok (.imul, 1) := by decide +kernel
theorem dX1_pricesIn_37 : decode cX1_pricesIn 37 = .ok (.iadd, 1) := by decide +kernel
theorem dX1_pricesIn_38 : decode cX1_pricesIn 38 = .ok (.istore_n 2, 1) := by decide +kernel
theorem dX1_pricesIn_39 : decode cX1_pricesIn 39 = .ok (.iinc 3 1, 3) := by decide +kernel
theorem dX1_pricesIn_42 : decode cX1_pricesIn 42 = .ok (.goto (-38), 3) := by decide +kernel
theorem dX1_pricesIn_45 : decode cX1_pricesIn 45 = .ok (.iload_n 2, 1) := by decide +kernel
theorem dX1_pricesIn_46 : decode cX1_pricesIn 46 = .ok (.ireturn, 1) := by decide +kernel
theorem dX1_countOfPieces_0 : decode cX1_countOfPieces 0 = .ok (.iconst 0, 1) := by decide +kernel
theorem dX1_countOfPieces_1 : decode cX1_countOfPieces 1 = .ok (.istore_n 1, 1) := by decide +kernel
theorem dX1_countOfPieces_2 : decode cX1_countOfPieces 2 = .ok (.iconst 0, 1) := by decide +kernel
theorem dX1_countOfPieces_3 : decode cX1_countOfPieces 3 = .ok (.istore_n 2, 1) := by decide +kernel
theorem dX1_countOfPieces_4 : decode cX1_countOfPieces 4 = .ok (.iload_n 2, 1) := by decide +kernel
theorem dX1_countOfPieces_5 : decode cX1_countOfPieces 5 = .ok (.bipush 10, 2) := by decide +kernel
theorem dX1_countOfPieces_7 : decode cX1_countOfPieces 7 = .ok (.if_icmp .ge 18, 3) := by decide +kernel
theorem dX1_countOfPieces_10 : decode cX1_countOfPieces 10 = .ok (.iload_n 1, 1) := by decide +kernel
theorem dX1_countOfPieces_11 : decode cX1_countOfPieces 11 = .ok (.aload_n 0, 1) := by decide +kernel
theorem dX1_countOfPieces_12 : decode cX1_countOfPieces 12 = .ok (.getfield 18, 3) := by decide +kernel
theorem dX1_countOfPieces_15 : decode cX1_countOfPieces 15 = .ok (.iload_n 2, 1) := by decide +kernel
theorem dX1_countOfPieces_16 : decode cX1_countOfPieces 16 = .ok (.iaload, 1) := by decide +kernel
theorem dX1_countOfPieces_17 : decode cX1_countOfPieces 17 = .ok (.iadd, 1) := by decide +kernel
theorem dX1_countOfPieces_18 : decode cX1_countOfPieces 18 = .ok (.istore_n 1, 1) := by decide +kernel
theorem dX1_countOfPieces_19 : decode cX1_countOfPieces 19 = .ok (.iinc 2 1, 3) := by decide +kernel
theorem dX1_countOfPieces_22 : decode cX1_countOfPieces 22 = .ok (.goto (-18), 3) := by decide +kernel
theorem dX1_countOfPieces_25 : decode cX1_countOfPieces 25 = .ok (.iload_n 1, 1) := by decide +kernel
theorem dX1_countOfPieces_26 : decode cX1_countOfPieces 26 = .ok (.ireturn, 1) := by decide +kernel
theorem dX1_copyFrom_0 : decode cX1_copyFrom 0 = .ok (.aload_n 1, 1) := by decide +kernel
theorem dX1_copyFrom_1 : decode cX1_copyFrom 1 = .ok (.getfield 9, 3) := by decide +kernel
theorem dX1_copyFrom_4 : decode cX1_copyFrom 4 = .ok (.iconst 0, 1) := by decide +kernel
theorem dX1_copyFrom_5 : decode cX1_copyFrom 5 = .ok (.aload_n 0, 1) := by decide +kernel
theorem dX1_copyFrom_6 : decode cX1_copyFrom 6 = .ok (.getfield 9, 3) := by decide +kernel
theorem dX1_copyFrom_9 : decode cX1_copyFrom 9 = .ok (.iconst 0, 1) := by decide +kernel
theorem dX1_copyFrom_10 : decode cX1_copyFrom 10 = .ok (.bipush 10, 2) := by decide +kernel
theorem dX1_copyFrom_12 : decode cX1_copyFrom 12 = .ok (.invokestatic 21, 3) := by decide +kernel
theorem dX1_copyFrom_15 : decode cX1_copyFrom 15 = .ok (.aload_n 1, 1) := by decide +kernel
theorem dX1_copyFrom_16 : decode cX1_copyFrom 16 = .ok (.getfield 15, 3) := by decide +kernel
theorem dX1_copyFrom_19 : decode cX1_copyFrom 19 = .ok (.iconst 0, 1) := by decide +kernel
theorem dX1_copyFrom_20 : decode cX1_copyFrom 20 = .ok (.aload_n 0, 1) := by decide +kernel
theorem dX1_copyFrom_21 : decode cX1_copyFrom 21 = .ok (.getfield 15, 3) := by decide +kernel
theorem dX1_copyFrom_24 : decode cX1_copyFrom 24 = .ok (.iconst 0, 1) := by decide +kernel
theorem dX1_copyFrom_25 : decode cX1_copyFrom 25 = .ok (.bipush 10, 2) := by decide +kernel
theorem dX1_copyFrom_27 : decode cX1_copyFrom 27 = .ok (.invokestatic 21, 3) := by decide +kernel
theorem dX1_copyFrom_30 : decode cX1_copyFrom 30 = .ok (.aload_n 1, 1) := by decide +kernel
theorem dX1_copyFrom_31 : decode cX1_copyFrom 31 = .ok (.getfield 18, 3) := by decide +kernel
theorem dX1_copyFrom_34 : decode cX1_copyFrom 34 = .ok (.iconst 0, 1) := by decide +kernel
theorem dX1_copyFrom_35 : decode cX1_copyFrom 35 = .ok (.aload_n 0, 1) := by decide +kernel
theorem dX1_copyFrom_36 : decode cX1_copyFrom 36 = .ok (.getfield 18, 3) := by decide +kernel
theorem dX1_copyFrom_39 : decode cX1_copyFrom 39 = .ok (.iconst 0, 1) := by decide +kernel
theorem dX1_copyFrom_40 : decode cX1_copyFrom 40 = .ok (.bipush 10, 2) := by decide +kernel
theorem dX1_copyFrom_42 : decode cX1_copyFrom 42 = .ok (.invokestatic 21, 3) := by decide +kernel
theorem dX1_copyFrom_45 : decode cX1_copyFrom 45 = .ok (.return_, 1) := by decide +kernel
theorem dX1_removeAllPieces_0 : decode cX1_removeAllPieces 0 = .ok (.aload_n 0, 1) := by decide +kernel
theorem dX1_removeAllPieces_1 : decode cX1_removeAllPieces 1 = .ok (.getfield 18, 3) := by decide +kernel
theorem dX1_removeAllPieces_4 : decode cX1_removeAllPieces 4 = .ok (.iconst 0, 1) := by decide +kernel
theorem dX1_removeAllPieces_5 : decode cX1_removeAllPieces 5 = .ok (.invokestatic 27, 3) := by decide +kernel
theorem dX1_removeAllPieces_8 : decode cX1_removeAllPieces 8 = .ok (.return_, 1) := by decide +kernel
theorem dX2_init_0 : decode cX2_init 0 = .ok (.aload_n 0, 1) := by decide +kernel
theorem dX2_init_1 : decode cX2_init 1 = .ok (.invokespecial 3, 3) := by decide +kernel
theorem dX2_init_4 : decode cX2_init 4 = .ok (.aload_n 0, 1) := by decide +kernel
theorem dX2_init_5 : decode cX2_init 5 = .ok (.new 9, 3) := by decide +kernel
theorem dX2_init_8 : decode cX2_init 8 = .ok (.dup, 1) := by decide +kernel
theorem dX2_init_9 : decode cX2_init 9 = .ok (.invokespecial 11, 3) := by decide +kernel
theorem dX2_init_12 : decode cX2_init 12 = .ok (.putfield 12, 3) := by decide +kernel
theorem dX2_init_15 : decode cX2_init 15 = .ok (.aload_n 0, 1) := by decide +kernel
theorem dX2_init_16 : decode cX2_init 16 = .ok (.iconst 0, 1) := by decide +kernel
theorem dX2_init_17 : decode cX2_init 17 = .ok (.putfield 18, 3) := by decide +kernel
theorem dX2_init_20 : decode cX2_init 20 = .ok (.aload_n 0, 1) := by decide +kernel
theorem dX2_init_21 : decode cX2_init 21 = .ok (.iconst 0, 1) := by decide +kernel
theorem dX2_init_22 : decode cX2_init 22 = .ok (.putfield 22, 3) := by decide +kernel
theorem dX2_init_25 : decode cX2_init 25 = .ok (.aload_n 0, 1) := by decide +kernel
theorem dX2_init_26 : decode cX2_init 26 = .ok (.iconst 0, 1) := by decide +kernel
theorem dX2_init_27 : decode cX2_init 27 = .ok (.putfield 25, 3) := by decide +kernel
theorem dX2_init_30 : decode cX2_init 30 = .ok (.return_, 1) := by decide +kernel
theorem dX2_become_0 : decode cX2_become 0 = .ok (.aload_n 0, 1) := by decide +kernel
theorem dX2_become_1 : decode cX2_become 1 = .ok (.getfield 12, 3) := by decide +kernel
theorem dX2_become_4 : decode cX2_become 4 = .ok (.aload_n 1, 1) := by decide +kernel
theorem dX2_become_5 : decode cX2_become 5 = .ok (.invokevirtual 28, 3) := by decide +kernel
theorem dX2_become_8 : decode cX2_become 8 = .ok (.aload_n 0, 1) := by decide +kernel
theorem dX2_become_9 : decode cX2_become 9 = .ok (.iload_n 2, 1) := by decide +kernel
theorem dX2_become_10 : decode cX2_become 10 = .ok (.putfield 18, 3) := by decide +kernel
theorem dX2_become_13 : decode cX2_become 13 = .ok (.aload_n 0, 1) := by decide +kernel
theorem dX2_become_14 : decode cX2_become 14 = .ok (.iload_n 3, 1) := by decide +kernel
theorem dX2_become_15 : decode cX2_become 15 = .ok (.putfield 22, 3) := by decide +kernel
theorem dX2_become_18 : decode cX2_become 18 = .ok (.aload_n 0, 1) := by decide +kernel
theorem dX2_become_19 : decode cX2_become 19 = .ok (.iload 4, 2) := by decide +kernel
theorem dX2_become_21 : decode cX2_become 21 = .ok (.putfield 25, 3) := by decide +kernel
theorem dX2_become_24 : decode cX2_become 24 = .ok (.return_, 1) := by decide +kernel
theorem dX2_tell_0 : decode cX2_tell 0 = .ok (.iload_n 1, 1) := by decide +kernel
theorem dX2_tell_1 : decode cX2_tell 1 = .ok (.tableswitch 54 0 3 #[31, 36, 41, 46], 31) := by decide +kernel
theorem dX2_tell_32 : decode cX2_tell 32 = .ok (.aload_n 0, 1) := by decide +kernel
theorem dX2_tell_33 : decode cX2_tell 33 = .ok (.getfield 25, 3) := by decide +kernel
theorem dX2_tell_36 : decode cX2_tell 36 = .ok (.ireturn, 1) := by decide +kernel
theorem dX2_tell_37 : decode cX2_tell 37 = .ok (.aload_n 0, 1) := by decide +kernel
theorem dX2_tell_38 : decode cX2_tell 38 = .ok (.getfield 22, 3) := by decide +kernel
theorem dX2_tell_41 : decode cX2_tell 41 = .ok (.ireturn, 1) := by decide +kernel
theorem dX2_tell_42 : decode cX2_tell 42 = .ok (.aload_n 0, 1) := by decide +kernel
theorem dX2_tell_43 : decode cX2_tell 43 = .ok (.getfield 18, 3) := by decide +kernel
theorem dX2_tell_46 : decode cX2_tell 46 = .ok (.ireturn, 1) := by decide +kernel
theorem dX2_tell_47 : decode cX2_tell 47 = .ok (.aload_n 0, 1) := by decide +kernel
theorem dX2_tell_48 : decode cX2_tell 48 = .ok (.getfield 12, 3) := by decide +kernel
theorem dX2_tell_51 : decode cX2_tell 51 = .ok (.invokevirtual 32, 3) := by decide +kernel
theorem dX2_tell_54 : decode cX2_tell 54 = .ok (.ireturn, 1) := by decide +kernel
theorem dX2_tell_55 : decode cX2_tell 55 = .ok (.aload_n 0, 1) := by decide +kernel
theorem dX2_tell_56 : decode cX2_tell 56 = .ok (.getfield 12, 3) := by decide +kernel
theorem dX2_tell_59 : decode cX2_tell 59 = .ok (.sipush 255, 3) := by decide +kernel
theorem dX2_tell_62 : decode cX2_tell 62 = .ok (.invokevirtual 36, 3) := by decide +kernel
theorem dX2_tell_65 : decode cX2_tell 65 = .ok (.ireturn, 1) := by decide +kernel
theorem dX3_init_0 : decode cX3_init 0 = .ok (.aload_n 0, 1) := by decide +kernel
theorem dX3_init_1 : decode cX3_init 1 = .ok (.invokespecial 3, 3) := by decide +kernel
theorem dX3_init_4 : decode cX3_init 4 = .ok (.aload_n 0, 1) := by decide +kernel
theorem dX3_init_5 : decode cX3_init 5 = .ok (.iconst 0, 1) := by decide +kernel
theorem dX3_init_6 : decode cX3_init 6 = .ok (.putfield 9, 3) := by decide +kernel
theorem dX3_init_9 : decode cX3_init 9 = .ok (.aload_n 0, 1) := by decide +kernel
theorem dX3_init_10 : decode cX3_init 10 = .ok (.iconst 0, 1) := by decide +kernel
theorem dX3_init_11 : decode cX3_init 11 = .ok (.putfield 15, 3) := by decide +kernel
theorem dX3_init_14 : decode cX3_init 14 = .ok (.aload_n 0, 1) := by decide +kernel
theorem dX3_init_15 : decode cX3_init 15 = .ok (.iconst 0, 1) := by decide +kernel
theorem dX3_init_16 : decode cX3_init 16 = .ok (.putfield 18, 3) := by decide +kernel
theorem dX3_init_19 : decode cX3_init 19 = .ok (.aload_n 0, 1) := by decide +kernel
theorem dX3_init_20 : decode cX3_init 20 = .ok (.ldc 21, 2) := by decide +kernel
theorem dX3_init_22 : decode cX3_init 22 = .ok (.putfield 22, 3) := by decide +kernel
theorem dX3_init_25 : decode cX3_init 25 = .ok (.aload_n 0, 1) := by decide +kernel
theorem dX3_init_26 : decode cX3_init 26 = .ok (.ldc 21, 2) := by decide +kernel
theorem dX3_init_28 : decode cX3_init 28 = .ok (.putfield 25, 3) := by decide +kernel
theorem dX3_init_31 : decode cX3_init 31 = .ok (.return_, 1) := by decide +kernel
theorem dX3_begin_0 : decode cX3_begin 0 = .ok (.aload_n 0, 1) := by decide +kernel
theorem dX3_begin_1 : decode cX3_begin 1 = .ok (.iload_n 1, 1) := by decide +kernel
theorem dX3_begin_2 : decode cX3_begin 2 = .ok (.putfield 9, 3) := by decide +kernel
theorem dX3_begin_5 : decode cX3_begin 5 = .ok (.aload_n 0, 1) := by decide +kernel
theorem dX3_begin_6 : decode cX3_begin 6 = .ok (.iload_n 2, 1) := by decide +kernel
theorem dX3_begin_7 : decode cX3_begin 7 = .ok (.putfield 15, 3) := by decide +kernel
theorem dX3_begin_10 : decode cX3_begin 10 = .ok (.aload_n 0, 1) := by decide +kernel
theorem dX3_begin_11 : decode cX3_begin 11 = .ok (.iconst 0, 1) := by decide +kernel
theorem dX3_begin_12 : decode cX3_begin 12 = .ok (.putfield 18, 3) := by decide +kernel
theorem dX3_begin_15 : decode cX3_begin 15 = .ok (.aload_n 0, 1) := by decide +kernel
theorem dX3_begin_16 : decode cX3_begin 16 = .ok (.ldc 21, 2) := by decide +kernel
theorem dX3_begin_18 : decode cX3_begin 18 = .ok (.putfield 22, 3) := by decide +kernel
theorem dX3_begin_21 : decode cX3_begin 21 = .ok (.aload_n 0, 1) := by decide +kernel
theorem dX3_begin_22 : decode cX3_begin 22 = .ok (.ldc 21, 2) := by decide +kernel
theorem dX3_begin_24 : decode cX3_begin 24 = .ok (.putfield 25, 3) := by decide +kernel
theorem dX3_begin_27 : decode cX3_begin 27 = .ok (.return_, 1) := by decide +kernel
theorem dX3_offer_0 : decode cX3_offer 0 = .ok (.iload_n 1, 1) := by decide +kernel
theorem dX3_offer_1 : decode cX3_offer 1 = .ok (.aload_n 0, 1) := by decide +kernel
theorem dX3_offer_2 : decode cX3_offer 2 = .ok (.getfield 9, 3) := by decide +kernel
theorem dX3_offer_5 : decode cX3_offer 5 = .ok (.iand, 1) := by decide +kernel
theorem dX3_offer_6 : decode cX3_offer 6 = .ok (.ifCond .ne 15, 3) := by decide +kernel
theorem dX3_offer_9 : decode cX3_offer 9 = .ok (.aload_n 0, 1) := by decide +kernel
theorem dX3_offer_10 : decode cX3_offer 10 = .ok (.aload_n 0, 1) := by decide +kernel
theorem dX3_offer_11 : decode cX3_offer 11 = .ok (.getfield 25, 3) := by decide +kernel
theorem dX3_offer_14 : decode cX3_offer 14 = .ok (.iload_n 2, 1) := by decide +kernel
theorem dX3_offer_15 : decode cX3_offer 15 = .ok (.invokestatic 28, 3) := by decide +kernel
theorem dX3_offer_18 : decode cX3_offer 18 = .ok (.putfield 25, 3) := by decide +kernel
theorem dX3_offer_21 : decode cX3_offer 21 = .ok (.aload_n 0, 1) := by decide +kernel
theorem dX3_offer_22 : decode cX3_offer 22 = .ok (.iload_n 1, 1) := by decide +kernel
theorem dX3_offer_23 : decode cX3_offer 23 = .ok (.iload_n 2, 1) := by decide +kernel
theorem dX3_offer_24 : decode cX3_offer 24 = .ok (.invokevirtual 34, 3) := by decide +kernel
theorem dX3_offer_27 : decode cX3_offer 27 = .ok (.ifCond .eq 13, 3) := by decide +kernel
theorem dX3_offer_30 : decode cX3_offer 30 = .ok (.aload_n 0, 1) := by decide +kernel
theorem dX3_offer_31 : decode cX3_offer 31 = .ok (.iload_n 1, 1) := by decide +kernel
theorem dX3_offer_32 : decode cX3_offer 32 = .ok (.putfield 18, 3) := by decide +kernel
theorem dX3_offer_35 : decode cX3_offer 35 = .ok (.aload_n 0, 1) := by decide +kernel
theorem dX3_offer_36 : decode cX3_offer 36 = .ok (.iload_n 2, 1) := by decide +kernel
theorem dX3_offer_37 : decode cX3_offer 37 = .ok (.putfield 22, 3) := by decide +kernel
theorem dX3_offer_40 : decode cX3_offer 40 = .ok (.return_, 1) := by decide +kernel
theorem dX3_isBetter_0 : decode cX3_isBetter 0 = .ok (.iload_n 2, 1) := by decide +kernel
theorem dX3_isBetter_1 : decode cX3_isBetter 1 = .ok (.aload_n 0, 1) := by decide +kernel
theorem dX3_isBetter_2 : decode cX3_isBetter 2 = .ok (.getfield 22, 3) := by decide +kernel
theorem dX3_isBetter_5 : decode cX3_isBetter 5 = .ok (.if_icmp .eq 17, 3) := by decide +kernel
theorem dX3_isBetter_8 : decode cX3_isBetter 8 = .ok (.iload_n 2, 1) := by decide +kernel
theorem dX3_isBetter_9 : decode cX3_isBetter 9 = .ok (.aload_n 0, 1) := by decide +kernel
theorem dX3_isBetter_10 : decode cX3_isBetter 10 = .ok (.getfield 22, 3) := by decide +kernel
theorem dX3_isBetter_13 : decode cX3_isBetter 13 = .ok (.if_icmp .ge 7, 3) := by decide +kernel
theorem dX3_isBetter_16 : decode cX3_isBetter 16 = .ok (.iconst 1, 1) := by decide +kernel
theorem dX3_isBetter_17 : decode cX3_isBetter 17 = .ok (.goto 4, 3) := by decide +kernel
theorem dX3_isBetter_20 : decode cX3_isBetter 20 = .ok (.iconst 0, 1) := by decide +kernel
theorem dX3_isBetter_21 : decode cX3_isBetter 21 = .ok (.ireturn, 1) := by decide +kernel
theorem dX3_isBetter_22 : decode cX3_isBetter 22 = .ok (.iload_n 1, 1) := by decide +kernel
theorem dX3_isBetter_23 : decode cX3_isBetter 23 = .ok (.invokestatic 38, 3) := by decide +kernel
theorem dX3_isBetter_26 : decode cX3_isBetter 26 = .ok (.aload_n 0, 1) := by decide +kernel
theorem dX3_isBetter_27 : decode cX3_isBetter 27 = .ok (.getfield 18, 3) := by decide +kernel
theorem dX3_isBetter_30 : decode cX3_isBetter 30 = .ok (.invokestatic 38, 3) := by decide +kernel
theorem dX3_isBetter_33 : decode cX3_isBetter 33 = .ok (.isub, 1) := by decide +kernel
theorem dX3_isBetter_34 : decode cX3_isBetter 34 = .ok (.istore_n 3, 1) := by decide +kernel
theorem dX3_isBetter_35 : decode cX3_isBetter 35 = .ok (.iload_n 3, 1) := by decide +kernel
theorem dX3_isBetter_36 : decode cX3_isBetter 36 = .ok (.ifCond .lt 15, 3) := by decide +kernel
theorem dX3_isBetter_39 : decode cX3_isBetter 39 = .ok (.iload_n 3, 1) := by decide +kernel
theorem dX3_isBetter_40 : decode cX3_isBetter 40 = .ok (.ifCond .ne 15, 3) := by decide +kernel
theorem dX3_isBetter_43 : decode cX3_isBetter 43 = .ok (.iload_n 1, 1) := by decide +kernel
theorem dX3_isBetter_44 : decode cX3_isBetter 44 = .ok (.aload_n 0, 1) := by decide +kernel
theorem dX3_isBetter_45 : decode cX3_isBetter 45 = .ok (.getfield 18, 3) := by decide +kernel
theorem dX3_isBetter_48 : decode cX3_isBetter 48 = .ok (.if_icmp .ge 7, 3) := by decide +kernel
theorem dX3_isBetter_51 : decode cX3_isBetter 51 = .ok (.iconst 1, 1) := by decide +kernel
theorem dX3_isBetter_52 : decode cX3_isBetter 52 = .ok (.goto 4, 3) := by decide +kernel
theorem dX3_isBetter_55 : decode cX3_isBetter 55 = .ok (.iconst 0, 1) := by decide +kernel
theorem dX3_isBetter_56 : decode cX3_isBetter 56 = .ok (.ireturn, 1) := by decide +kernel
theorem dX4_init_0 : decode cX4_init 0 = .ok (.aload_n 0, 1) := by decide +kernel
theorem dX4_init_1 : decode cX4_init 1 = .ok (.invokespecial 3, 3) := by decide +kernel
theorem dX4_init_4 : decode cX4_init 4 = .ok (.aload_n 0, 1) := by decide +kernel
theorem dX4_init_5 : decode cX4_init 5 = .ok (.bipush 60, 2) := by decide +kernel
theorem dX4_init_7 : decode cX4_init 7 = .ok (.newarray .int, 2) := by decide +kernel
theorem dX4_init_9 : decode cX4_init 9 = .ok (.putfield 9, 3) := by decide +kernel
theorem dX4_init_12 : decode cX4_init 12 = .ok (.aload_n 0, 1) := by decide +kernel
theorem dX4_init_13 : decode cX4_init 13 = .ok (.bipush 60, 2) := by decide +kernel
theorem dX4_init_15 : decode cX4_init 15 = .ok (.newarray .int, 2) := by decide +kernel
theorem dX4_init_17 : decode cX4_init 17 = .ok (.putfield 15, 3) := by decide +kernel
theorem dX4_init_20 : decode cX4_init 20 = .ok (.aload_n 0, 1) := by decide +kernel
theorem dX4_init_21 : decode cX4_init 21 = .ok (.bipush 9, 2) := by decide +kernel
theorem dX4_init_23 : decode cX4_init 23 = .ok (.bipush 60, 2) := by decide +kernel
theorem dX4_init_25 : decode cX4_init 25 = .ok (.multianewarray 18 2, 4) := by decide +kernel
theorem dX4_init_29 : decode cX4_init 29 = .ok (.putfield 20, 3) := by decide +kernel
theorem dX4_init_32 : decode cX4_init 32 = .ok (.aload_n 0, 1) := by decide +kernel
theorem dX4_init_33 : decode cX4_init 33 = .ok (.bipush 60, 2) := by decide +kernel
theorem dX4_init_35 : decode cX4_init 35 = .ok (.newarray .int, 2) := by decide +kernel
theorem dX4_init_37 : decode cX4_init 37 = .ok (.putfield 23, 3) := by decide +kernel
theorem dX4_init_40 : decode cX4_init 40 = .ok (.aload_n 0, 1) := by decide +kernel
theorem dX4_init_41 : decode cX4_init 41 = .ok (.iconst 0, 1) := by decide +kernel
theorem dX4_init_42 : decode cX4_init 42 = .ok (.putfield 26, 3) := by decide +kernel
theorem dX4_init_45 : decode cX4_init 45 = .ok (.return_, 1) := by decide +kernel
theorem dX4_lay_0 : decode cX4_lay 0 = .ok (.iconst 0, 1) := by decide +kernel
theorem dX4_lay_1 : decode cX4_lay 1 = .ok (.istore_n 2, 1) := by decide +kernel
theorem dX4_lay_2 : decode cX4_lay 2 = .ok (.iconst 0, 1) := by decide +kernel
theorem dX4_lay_3 : decode cX4_lay 3 = .ok (.istore_n 3, 1) := by decide +kernel
theorem dX4_lay_4 : decode cX4_lay 4 = .ok (.iload_n 3, 1) := by decide +kernel
theorem dX4_lay_5 : decode cX4_lay 5 = .ok (.bipush 10, 2) := by decide +kernel
theorem dX4_lay_7 : decode cX4_lay 7 = .ok (.if_icmp .ge 71, 3) := by decide +kernel
theorem dX4_lay_10 : decode cX4_lay 10 = .ok (.iconst 0, 1) := by decide +kernel
theorem dX4_lay_11 : decode cX4_lay 11 = .ok (.istore 4, 2) := by decide +kernel
theorem dX4_lay_13 : decode cX4_lay 13 = .ok (.iload 4, 2) := by decide +kernel
theorem dX4_lay_15 : decode cX4_lay 15 = .ok (.aload_n 1, 1) := by decide +kernel
theorem dX4_lay_16 : decode cX4_lay 16 = .ok (.getfield 30, 3) := by decide +kernel
theorem dX4_lay_19 : decode cX4_lay 19 = .ok (.iload_n 3, 1) := by decide +kernel
theorem dX4_lay_20 : decode cX4_lay 20 = .ok (.iaload, 1) := by decide +kernel
theorem dX4_lay_21 : decode cX4_lay 21 = .ok (.if_icmp .ge 51, 3) := by decide +kernel
theorem dX4_lay_24 : decode cX4_lay 24 = .ok (.iload_n 2, 1) := by decide +kernel
theorem dX4_lay_25 : decode cX4_lay 25 = .ok (.bipush 60, 2) := by decide +kernel
theorem dX4_lay_27 : decode cX4_lay 27 = .ok (.if_icmp .ge 45, 3) := by decide +kernel
theorem dX4_lay_30 : decode cX4_lay 30 = .ok (.aload_n 0, 1) := by decide +kernel
theorem dX4_lay_31 : decode cX4_lay 31 = .ok (.getfield 9, 3) := by decide +kernel
theorem dX4_lay_34 : decode cX4_lay 34 = .ok (.iload_n 2, 1) := by decide +kernel
theorem dX4_lay_35 : decode cX4_lay 35 = .ok (.iload_n 3, 1) := by decide +kernel
theorem dX4_lay_36 : decode cX4_lay 36 = .ok (.iastore, 1) := by decide +kernel
theorem dX4_lay_37 : decode cX4_lay 37 = .ok (.aload_n 0, 1) := by decide +kernel
theorem dX4_lay_38 : decode cX4_lay 38 = .ok (.getfield 15, 3) := by decide +kernel
theorem dX4_lay_41 : decode cX4_lay 41 = .ok (.iload_n 2, 1) := by decide +kernel
theorem dX4_lay_42 : decode cX4_lay 42 = .ok (.aload_n 1, 1) := by decide +kernel
theorem dX4_lay_43 : decode cX4_lay 43 = .ok (.getfield 35, 3) := by decide +kernel
theorem dX4_lay_46 : decode cX4_lay 46 = .ok (.iload_n 3, 1) := by decide +kernel
theorem dX4_lay_47 : decode cX4_lay 47 = .ok (.iaload, 1) := by decide +kernel
theorem dX4_lay_48 : decode cX4_lay 48 = .ok (.iastore, 1) := by decide +kernel
theorem dX4_lay_49 : decode cX4_lay 49 = .ok (.aload_n 0, 1) := by decide +kernel
theorem dX4_lay_50 : decode cX4_lay 50 = .ok (.getfield 20, 3) := by decide +kernel
theorem dX4_lay_53 : decode cX4_lay 53 = .ok (.iconst 0, 1) := by decide +kernel
theorem dX4_lay_54 : decode cX4_lay 54 = .ok (.aaload, 1) := by decide +kernel
theorem dX4_lay_55 : decode cX4_lay 55 = .ok (.iload_n 2, 1) := by decide +kernel
theorem dX4_lay_56 : decode cX4_lay 56 = .ok (.aload_n 1, 1) := by decide +kernel
theorem dX4_lay_57 : decode cX4_lay 57 = .ok (.getfield 36, 3) := by decide +kernel
theorem dX4_lay_60 : decode cX4_lay 60 = .ok (.iload_n 3, 1) := by decide +kernel
theorem dX4_lay_61 : decode cX4_lay 61 = .ok (.iaload, 1) := by decide +kernel
theorem dX4_lay_62 : decode cX4_lay 62 = .ok (.iastore, 1) := by decide +kernel
theorem dX4_lay_63 : decode cX4_lay 63 = .ok (.iinc 2 1, 3) := by decide +kernel
theorem dX4_lay_66 : decode cX4_lay 66 = .ok (.iinc 4 1, 3) := by decide +kernel
theorem dX4_lay_69 : decode cX4_lay 69 = .ok (.goto (-56), 3) := by decide +kernel
theorem dX4_lay_72 : decode cX4_lay 72 = .ok (.iinc 3 1, 3) := by decide +kernel
theorem dX4_lay_75 : decode cX4_lay 75 = .ok (.goto (-71), 3) := by decide +kernel
theorem dX4_lay_78 : decode cX4_lay 78 = .ok (.aload_n 0, 1) := by decide +kernel
theorem dX4_lay_79 : decode cX4_lay 79 = .ok (.iload_n 2, 1) := by decide +kernel
theorem dX4_lay_80 : decode cX4_lay 80 = .ok (.putfield 26, 3) := by decide +kernel
theorem dX4_lay_83 : decode cX4_lay 83 = .ok (.return_, 1) := by decide +kernel
theorem dX4_copyRow_0 : decode cX4_copyRow 0 = .ok (.aload_n 0, 1) := by decide +kernel
theorem dX4_copyRow_1 : decode cX4_copyRow 1 = .ok (.getfield 20, 3) := by decide +kernel
theorem dX4_copyRow_4 : decode cX4_copyRow 4 = .ok (.iload_n 1, 1) := by decide +kernel
theorem dX4_copyRow_5 : decode cX4_copyRow 5 = .ok (.aaload, 1) := by decide +kernel
theorem dX4_copyRow_6 : decode cX4_copyRow 6 = .ok (.iconst 0, 1) := by decide +kernel
theorem dX4_copyRow_7 : decode cX4_copyRow 7 = .ok (.aload_n 0, 1) := by decide +kernel
theorem dX4_copyRow_8 : decode cX4_copyRow 8 = .ok (.getfield 20, 3) := by decide +kernel
theorem dX4_copyRow_11 : decode cX4_copyRow 11 = .ok (.iload_n 2, 1) := by decide +kernel
theorem dX4_copyRow_12 : decode cX4_copyRow 12 = .ok (.aaload, 1) := by decide +kernel
theorem dX4_copyRow_13 : decode cX4_copyRow 13 = .ok (.iconst 0, 1) := by decide +kernel
theorem dX4_copyRow_14 : decode cX4_copyRow 14 = .ok (.aload_n 0, 1) := by decide +kernel
theorem dX4_copyRow_15 : decode cX4_copyRow 15 = .ok (.getfield 26, 3) := by decide +kernel
theorem dX4_copyRow_18 : decode cX4_copyRow 18 = .ok (.invokestatic 39, 3) := by decide +kernel
theorem dX4_copyRow_21 : decode cX4_copyRow 21 = .ok (.return_, 1) := by decide +kernel
theorem dX4_restsInRow_0 : decode cX4_restsInRow 0 = .ok (.aload_n 0, 1) := by decide +kernel
theorem dX4_restsInRow_1 : decode cX4_restsInRow 1 = .ok (.getfield 20, 3) := by decide +kernel
theorem dX4_restsInRow_4 : decode cX4_restsInRow 4 = .ok (.iload_n 1, 1) := by decide +kernel
theorem dX4_restsInRow_5 : decode cX4_restsInRow 5 = .ok (.aaload, 1) := by decide +kernel
theorem dX4_restsInRow_6 : decode cX4_restsInRow 6 = .ok (.astore_n 2, 1) := by decide +kernel
theorem dX4_restsInRow_7 : decode cX4_restsInRow 7 = .ok (.iconst 0, 1) := by decide +kernel
theorem dX4_restsInRow_8 : decode cX4_restsInRow 8 = .ok (.istore_n 3, 1) := by decide +kernel
theorem dX4_restsInRow_9 : decode cX4_restsInRow 9 = .ok (.iconst 0, 1) := by decide +kernel
theorem dX4_restsInRow_10 : decode cX4_restsInRow 10 = .ok (.istore 4, 2) := by decide +kernel
theorem dX4_restsInRow_12 : decode cX4_restsInRow 12 = .ok (.iload 4, 2) := by decide +kernel
theorem dX4_restsInRow_14 : decode cX4_restsInRow 14 = .ok (.aload_n 0, 1) := by decide +kernel
theorem dX4_restsInRow_15 : decode cX4_restsInRow 15 = .ok (.getfield 26, 3) := by decide +kernel
theorem dX4_restsInRow_18 : decode cX4_restsInRow 18 = .ok (.if_icmp .ge 16, 3) := by decide +kernel
theorem dX4_restsInRow_21 : decode cX4_restsInRow 21 = .ok (.iload_n 3, 1) := by decide +kernel
theorem dX4_restsInRow_22 : decode cX4_restsInRow 22 = .ok (.aload_n 2, 1) := by decide +kernel
theorem dX4_restsInRow_23 : decode cX4_restsInRow 23 = .ok (.iload 4, 2) := by decide +kernel
theorem dX4_restsInRow_25 : decode cX4_restsInRow 25 = .ok (.iaload, 1) := by decide +kernel
theorem dX4_restsInRow_26 : decode cX4_restsInRow 26 = .ok (.iadd, 1) := by decide +kernel
theorem dX4_restsInRow_27 : decode cX4_restsInRow 27 = .ok (.istore_n 3, 1) := by decide +kernel
theorem dX4_restsInRow_28 : decode cX4_restsInRow 28 = .ok (.iinc 4 1, 3) := by decide +kernel
theorem dX4_restsInRow_31 : decode cX4_restsInRow 31 = .ok (.goto (-19), 3) := by decide +kernel
theorem dX4_restsInRow_34 : decode cX4_restsInRow 34 = .ok (.iload_n 3, 1) := by decide +kernel
theorem dX4_restsInRow_35 : decode cX4_restsInRow 35 = .ok (.ireturn, 1) := by decide +kernel
theorem dX4_restsOfArticle_0 : decode cX4_restsOfArticle 0 = .ok (.iconst 0, 1) := by decide +kernel
theorem dX4_restsOfArticle_1 : decode cX4_restsOfArticle 1 = .ok (.istore_n 2, 1) := by decide +kernel
theorem dX4_restsOfArticle_2 : decode cX4_restsOfArticle 2 = .ok (.iconst 0, 1) := by decide +kernel
theorem dX4_restsOfArticle_3 : decode cX4_restsOfArticle 3 = .ok (.istore_n 3, 1) := by decide +kernel
theorem dX4_restsOfArticle_4 : decode cX4_restsOfArticle 4 = .ok (.iload_n 3, 1) := by decide +kernel
theorem dX4_restsOfArticle_5 : decode cX4_restsOfArticle 5 = .ok (.aload_n 0, 1) := by decide +kernel
theorem dX4_restsOfArticle_6 : decode cX4_restsOfArticle 6 = .ok (.getfield 26, 3) := by decide +kernel
theorem dX4_restsOfArticle_9 : decode cX4_restsOfArticle 9 = .ok (.if_icmp .ge 30, 3) := by decide +kernel
theorem dX4_restsOfArticle_12 : decode cX4_restsOfArticle 12 = .ok (.aload_n 0, 1) := by decide +kernel
theorem dX4_restsOfArticle_13 : decode cX4_restsOfArticle 13 = .ok (.getfield 9, 3) := by decide +kernel
theorem dX4_restsOfArticle_16 : decode cX4_restsOfArticle 16 = .ok (.iload_n 3, 1) := by decide +kernel
theorem dX4_restsOfArticle_17 : decode cX4_restsOfArticle 17 = .ok (.iaload, 1) := by decide +kernel
theorem dX4_restsOfArticle_18 : decode cX4_restsOfArticle 18 = .ok (.iload_n 1, 1) := by decide +kernel
theorem dX4_restsOfArticle_19 : decode cX4_restsOfArticle 19 = .ok (.if_icmp .ne 14, 3) := by decide +kernel
theorem dX4_restsOfArticle_22 : decode cX4_restsOfArticle 22 = .ok (.iload_n 2, 1) := by decide +kernel
theorem dX4_restsOfArticle_23 : decode cX4_restsOfArticle 23 = .ok (.aload_n 0, 1) := by decide +kernel
theorem dX4_restsOfArticle_24 : decode cX4_restsOfArticle 24 = .ok (.getfield 20, 3) := by decide +kernel
theorem dX4_restsOfArticle_27 : decode cX4_restsOfArticle 27 = .ok (.iconst 0, 1) := by decide +kernel
theorem dX4_restsOfArticle_28 : decode cX4_restsOfArticle 28 = .ok (.aaload, 1) := by decide +kernel
theorem dX4_restsOfArticle_29 : decode cX4_restsOfArticle 29 = .ok (.iload_n 3, 1) := by decide +kernel
theorem dX4_restsOfArticle_30 : decode cX4_restsOfArticle 30 = .ok (.iaload, 1) := by decide +kernel
theorem dX4_restsOfArticle_31 : decode cX4_restsOfArticle 31 = .ok (.iadd, 1) := by decide +kernel
theorem dX4_restsOfArticle_32 : decode cX4_restsOfArticle 32 = .ok (.istore_n 2, 1) := by decide +kernel
theorem dX4_restsOfArticle_33 : decode cX4_restsOfArticle 33 = .ok (.iinc 3 1, 3) := by decide +kernel
theorem dX4_restsOfArticle_36 : decode cX4_restsOfArticle 36 = .ok (.goto (-32), 3) := by decide +kernel
theorem dX4_restsOfArticle_39 : decode cX4_restsOfArticle 39 = .ok (.iload_n 2, 1) := by decide +kernel
theorem dX4_restsOfArticle_40 : decode cX4_restsOfArticle 40 = .ok (.ireturn, 1) := by decide +kernel
theorem dX4_apply_0 : decode cX4_apply 0 = .ok (.aload_n 1, 1) := by decide +kernel
theorem dX4_apply_1 : decode cX4_apply 1 = .ok (.getfield 45, 3) := by decide +kernel
theorem dX4_apply_4 : decode cX4_apply 4 = .ok (.tableswitch 70 0 2 #[28, 42, 56], 28) := by decide +kernel
theorem dX4_apply_32 : decode cX4_apply 32 = .ok (.aload_n 0, 1) := by decide +kernel
theorem dX4_apply_33 : decode cX4_apply 33 = .ok (.aload_n 1, 1) := by decide +kernel
theorem dX4_apply_34 : decode cX4_apply 34 = .ok (.aload_n 0, 1) := by decide +kernel
theorem dX4_apply_35 : decode cX4_apply 35 = .ok (.getfield 20, 3) := by decide +kernel
theorem dX4_apply_38 : decode cX4_apply 38 = .ok (.iload_n 2, 1) := by decide +kernel
theorem dX4_apply_39 : decode cX4_apply 39 = .ok (.aaload, 1) := by decide +kernel
theorem dX4_apply_40 : decode cX4_apply 40 = .ok (.invokevirtual 50, 3) := by decide +kernel
theorem dX4_apply_43 : decode cX4_apply 43 = .ok (.goto 31, 3) := by decide +kernel
theorem dX4_apply_46 : decode cX4_apply 46 = .ok (.aload_n 0, 1) := by decide +kernel
theorem dX4_apply_47 : decode cX4_apply 47 = .ok (.aload_n 1, 1) := by decide +kernel
theorem dX4_apply_48 : decode cX4_apply 48 = .ok (.aload_n 0, 1) := by decide +kernel
theorem dX4_apply_49 : decode cX4_apply 49 = .ok (.getfield 20, 3) := by decide +kernel
theorem dX4_apply_52 : decode cX4_apply 52 = .ok (.iload_n 2, 1) := by decide +kernel
theorem dX4_apply_53 : decode cX4_apply 53 = .ok (.aaload, 1) := by decide +kernel
theorem dX4_apply_54 : decode cX4_apply 54 = .ok (.invokevirtual 54, 3) := by decide +kernel
theorem dX4_apply_57 : decode cX4_apply 57 = .ok (.goto 17, 3) := by decide +kernel
theorem dX4_apply_60 : decode cX4_apply 60 = .ok (.aload_n 0, 1) := by decide +kernel
theorem dX4_apply_61 : decode cX4_apply 61 = .ok (.aload_n 1, 1) := by decide +kernel
theorem dX4_apply_62 : decode cX4_apply 62 = .ok (.aload_n 0, 1) := by decide +kernel
theorem dX4_apply_63 : decode cX4_apply 63 = .ok (.getfield 20, 3) := by decide +kernel
theorem dX4_apply_66 : decode cX4_apply 66 = .ok (.iload_n 2, 1) := by decide +kernel
theorem dX4_apply_67 : decode cX4_apply 67 = .ok (.aaload, 1) := by decide +kernel
theorem dX4_apply_68 : decode cX4_apply 68 = .ok (.invokevirtual 57, 3) := by decide +kernel
theorem dX4_apply_71 : decode cX4_apply 71 = .ok (.goto 3, 3) := by decide +kernel
theorem dX4_apply_74 : decode cX4_apply 74 = .ok (.return_, 1) := by decide +kernel
theorem dX4_takePercent_0 : decode cX4_takePercent 0 = .ok (.iconst 0, 1) := by decide +kernel
theorem dX4_takePercent_1 : decode cX4_takePercent 1 = .ok (.istore_n 3, 1) := by decide +kernel
theorem dX4_takePercent_2 : decode cX4_takePercent 2 = .ok (.iload_n 3, 1) := by decide +kernel
theorem dX4_takePercent_3 : decode cX4_takePercent 3 = .ok (.aload_n 0, 1) := by decide +kernel
theorem dX4_takePercent_4 : decode cX4_takePercent 4 = .ok (.getfield 26, 3) := by decide +kernel
theorem dX4_takePercent_7 : decode cX4_takePercent 7 = .ok (.if_icmp .ge 39, 3) := by decide +kernel
theorem dX4_takePercent_10 : decode cX4_takePercent 10 = .ok (.aload_n 1, 1) := by decide +kernel
theorem dX4_takePercent_11 : decode cX4_takePercent 11 = .ok (.aload_n 0, 1) := by decide +kernel
theorem dX4_takePercent_12 : decode cX4_takePercent 12 = .ok (.getfield 15, 3) := by decide +kernel
theorem dX4_takePercent_15 : decode cX4_takePercent 15 = .ok (.iload_n 3, 1) := by decide +kernel
theorem dX4_takePercent_16 : decode cX4_takePercent 16 = .ok (.iaload, 1) := by decide +kernel
theorem dX4_takePercent_17 : decode cX4_takePercent 17 = .ok (.invokevirtual 60, 3) := by decide +kernel
theorem dX4_takePercent_20 : decode cX4_takePercent 20 = .ok (.ifCond .eq 20, 3) := by decide +kernel
theorem dX4_takePercent_23 : decode cX4_takePercent 23 = .ok (.aload_n 2, 1) := by decide +kernel
theorem dX4_takePercent_24 : decode cX4_takePercent 24 = .ok (.iload_n 3, 1) := by decide +kernel
theorem dX4_takePercent_25 : decode cX4_takePercent 25 = .ok (.dup2, 1) := by decide +kernel
theorem dX4_takePercent_26 : decode cX4_takePercent 26 = .ok (.iaload, 1) := by decide +kernel
theorem dX4_takePercent_27 : decode cX4_takePercent 27 = .ok (.aload_n 2, 1) := by decide +kernel
theorem dX4_takePercent_28 : decode cX4_takePercent 28 = .ok (.iload_n 3, 1) := by decide +kernel
theorem dX4_takePercent_29 : decode cX4_takePercent 29 = .ok (.iaload, 1) := by decide +kernel
theorem dX4_takePercent_30 : decode cX4_takePercent 30 = .ok (.aload_n 1, 1) := by decide +kernel
theorem dX4_takePercent_31 : decode cX4_takePercent 31 = .ok (.getfield 64, 3) := by decide +kernel
theorem dX4_takePercent_34 : decode cX4_takePercent 34 = .ok (.imul, 1) := by decide +kernel
theorem dX4_takePercent_35 : decode cX4_takePercent 35 = .ok (.bipush 100, 2) := by decide +kernel
theorem dX4_takePercent_37 : decode cX4_takePercent 37 = .ok (.idiv, 1) := by decide +kernel
theorem dX4_takePercent_38 : decode cX4_takePercent 38 = .ok (.isub, 1) := by decide +kernel
theorem dX4_takePercent_39 : decode cX4_takePercent 39 = .ok (.iastore, 1) := by decide +kernel
theorem dX4_takePercent_40 : decode cX4_takePercent 40 = .ok (.iinc 3 1, 3) := by decide +kernel
theorem dX4_takePercent_43 : decode cX4_takePercent 43 = .ok (.goto (-41), 3) := by decide +kernel
theorem dX4_takePercent_46 : decode cX4_takePercent 46 = .ok (.return_, 1) := by decide +kernel
theorem dX4_takeAmount_0 : decode cX4_takeAmount 0 = .ok (.aload_n 0, 1) := by decide +kernel
theorem dX4_takeAmount_1 : decode cX4_takeAmount 1 = .ok (.aload_n 1, 1) := by decide +kernel
theorem dX4_takeAmount_2 : decode cX4_takeAmount 2 = .ok (.aload_n 2, 1) := by decide +kernel
theorem dX4_takeAmount_3 : decode cX4_takeAmount 3 = .ok (.invokevirtual 67, 3) := by decide +kernel
theorem dX4_takeAmount_6 : decode cX4_takeAmount 6 = .ok (.istore_n 3, 1) := by decide +kernel
theorem dX4_takeAmount_7 : decode cX4_takeAmount 7 = .ok (.iload_n 3, 1) := by decide +kernel
theorem dX4_takeAmount_8 : decode cX4_takeAmount 8 = .ok (.ifCond .gt 4, 3) := by decide +kernel
theorem dX4_takeAmount_11 : decode cX4_takeAmount 11 = .ok (.return_, 1) := by decide +kernel
theorem dX4_takeAmount_12 : decode cX4_takeAmount 12 = .ok (.iload_n 3, 1) := by decide +kernel
theorem dX4_takeAmount_13 : decode cX4_takeAmount 13 = .ok (.aload_n 1, 1) := by decide +kernel
theorem dX4_takeAmount_14 : decode cX4_takeAmount 14 = .ok (.getfield 64, 3) := by decide +kernel
theorem dX4_takeAmount_17 : decode cX4_takeAmount 17 = .ok (.invokestatic 71, 3) := by decide +kernel
theorem dX4_takeAmount_20 : decode cX4_takeAmount 20 = .ok (.istore 4, 2) := by decide +kernel
theorem dX4_takeAmount_22 : decode cX4_takeAmount 22 = .ok (.iload 4, 2) := by decide +kernel
theorem dX4_takeAmount_24 : decode cX4_takeAmount 24 = .ok (.istore 5, 2) := by decide +kernel
theorem dX4_takeAmount_26 : decode cX4_takeAmount 26 = .ok (.iconst 0, 1) := by decide +kernel
theorem dX4_takeAmount_27 : decode cX4_takeAmount 27 = .ok (.istore 6, 2) := by decide +kernel
theorem dX4_takeAmount_29 : decode cX4_takeAmount 29 = .ok (.iload 6, 2) := by decide +kernel
theorem dX4_takeAmount_31 : decode cX4_takeAmount 31 = .ok (.aload_n 0, 1) := by decide +kernel
theorem dX4_takeAmount_32 : decode cX4_takeAmount 32 = .ok (.getfield 26, 3) := by decide +kernel
theorem dX4_takeAmount_35 : decode cX4_takeAmount 35 = .ok (.if_icmp .ge 54, 3) := by decide +kernel
theorem dX4_takeAmount_38 : decode cX4_takeAmount 38 = .ok (.aload_n 1, 1) := by decide +kernel
theorem dX4_takeAmount_39 : decode cX4_takeAmount 39 = .ok (.aload_n 0, 1) := by decide +kernel
theorem dX4_takeAmount_40 : decode cX4_takeAmount 40 = .ok (.getfield 15, 3) := by decide +kernel
theorem dX4_takeAmount_43 : decode cX4_takeAmount 43 = .ok (.iload 6, 2) := by decide +kernel
theorem dX4_takeAmount_45 : decode cX4_takeAmount 45 = .ok (.iaload, 1) := by decide +kernel
theorem dX4_takeAmount_46 : decode cX4_takeAmount 46 = .ok (.invokevirtual 60, 3) := by decide +kernel
theorem dX4_takeAmount_49 : decode cX4_takeAmount 49 = .ok (.ifCond .eq 34, 3) := by decide +kernel
theorem dX4_takeAmount_52 : decode cX4_takeAmount 52 = .ok (.aload_n 2, 1) := by decide +kernel
theorem dX4_takeAmount_53 : decode cX4_takeAmount 53 = .ok (.iload 6, 2) := by decide +kernel
theorem dX4_takeAmount_55 : decode cX4_takeAmount 55 = .ok (.iaload, 1) := by decide +kernel
theorem dX4_takeAmount_56 : decode cX4_takeAmount 56 = .ok (.i2l, 1) := by decide +kernel
theorem dX4_takeAmount_57 : decode cX4_takeAmount 57 = .ok (.iload 4, 2) := by decide +kernel
theorem dX4_takeAmount_59 : decode cX4_takeAmount 59 = .ok (.i2l, 1) := by decide +kernel
theorem dX4_takeAmount_60 : decode cX4_takeAmount 60 = .ok (.lmul, 1) := by decide +kernel
theorem dX4_takeAmount_61 : decode cX4_takeAmount 61 = .ok (.iload_n 3, 1) := by decide +kernel
theorem dX4_takeAmount_62 : decode cX4_takeAmount 62 = .ok (.i2l, 1) := by decide +kernel
theorem dX4_takeAmount_63 : decode cX4_takeAmount 63 = .ok (.ldiv, 1) := by decide +kernel
theorem dX4_takeAmount_64 : decode cX4_takeAmount 64 = .ok (.l2i, 1) := by decide +kernel
theorem dX4_takeAmount_65 : decode cX4_takeAmount 65 = .ok (.istore 7, 2) := by decide +kernel
theorem dX4_takeAmount_67 : decode cX4_takeAmount 67 = .ok (.aload_n 2, 1) := by decide +kernel
theorem dX4_takeAmount_68 : decode cX4_takeAmount 68 = .ok (.iload 6, 2) := by decide +kernel
theorem dX4_takeAmount_70 : decode cX4_takeAmount 70 = .ok (.dup2, 1) := by decide +kernel
theorem dX4_takeAmount_71 : decode cX4_takeAmount 71 = .ok (.iaload, 1) := by decide +kernel
theorem dX4_takeAmount_72 : decode cX4_takeAmount 72 = .ok (.iload 7, 2) := by decide +kernel
theorem dX4_takeAmount_74 : decode cX4_takeAmount 74 = .ok (.isub, 1) := by decide +kernel
theorem dX4_takeAmount_75 : decode cX4_takeAmount 75 = .ok (.iastore, 1) := by decide +kernel
theorem dX4_takeAmount_76 : decode cX4_takeAmount 76 = .ok (.iload 5, 2) := by decide +kernel
theorem dX4_takeAmount_78 : decode cX4_takeAmount 78 = .ok (.iload 7, 2) := by decide +kernel
theorem dX4_takeAmount_80 : decode cX4_takeAmount 80 = .ok (.isub, 1) := by decide +kernel
theorem dX4_takeAmount_81 : decode cX4_takeAmount 81 = .ok (.istore 5, 2) := by decide +kernel
theorem dX4_takeAmount_83 : decode cX4_takeAmount 83 = .ok (.iinc 6 1, 3) := by decide +kernel
theorem dX4_takeAmount_86 : decode cX4_takeAmount 86 = .ok (.goto (-57), 3) := by decide +kernel
theorem dX4_takeAmount_89 : decode cX4_takeAmount 89 = .ok (.aload_n 0, 1) := by decide +kernel
theorem dX4_takeAmount_90 : decode cX4_takeAmount 90 = .ok (.aload_n 1, 1) := by decide +kernel
theorem dX4_takeAmount_91 : decode cX4_takeAmount 91 = .ok (.aload_n 2, 1) := by decide +kernel
theorem dX4_takeAmount_92 : decode cX4_takeAmount 92 = .ok (.iload 5, 2) := by decide +kernel
theorem dX4_takeAmount_94 : decode cX4_takeAmount 94 = .ok (.invokevirtual 77, 3) := by decide +kernel
theorem dX4_takeAmount_97 : decode cX4_takeAmount 97 = .ok (.return_, 1) := by decide +kernel
theorem dX4_matchedRests_0 : decode cX4_matchedRests 0 = .ok (.iconst 0, 1) := by decide +kernel
theorem dX4_matchedRests_1 : decode cX4_matchedRests 1 = .ok (.istore_n 3, 1) := by decide +kernel
theorem dX4_matchedRests_2 : decode cX4_matchedRests 2 = .ok (.iconst 0, 1) := by decide +kernel
theorem dX4_matchedRests_3 : decode cX4_matchedRests 3 = .ok (.istore 4, 2) := by decide +kernel
theorem dX4_matchedRests_5 : decode cX4_matchedRests 5 = .ok (.iload 4, 2) := by decide +kernel
theorem dX4_matchedRests_7 : decode cX4_matchedRests 7 = .ok (.aload_n 0, 1) := by decide +kernel
theorem dX4_matchedRests_8 : decode cX4_matchedRests 8 = .ok (.getfield 26, 3) := by decide +kernel
theorem dX4_matchedRests_11 : decode cX4_matchedRests 11 = .ok (.if_icmp .ge 30, 3) := by decide +kernel
theorem dX4_matchedRests_14 : decode cX4_matchedRests 14 = .ok (.aload_n 1, 1) := by decide +kernel
theorem dX4_matchedRests_15 : decode cX4_matchedRests 15 = .ok (.aload_n 0, 1) := by decide +kernel
theorem dX4_matchedRests_16 : decode cX4_matchedRests 16 = .ok (.getfield 15, 3) := by decide +kernel
theorem dX4_matchedRests_19 : decode cX4_matchedRests 19 = .ok (.iload 4, 2) := by decide +kernel
theorem dX4_matchedRests_21 : decode cX4_matchedRests 21 = .ok (.iaload, 1) := by decide +kernel
theorem dX4_matchedRests_22 : decode cX4_matchedRests 22 = .ok (.invokevirtual 60, 3) := by decide +kernel
theorem dX4_matchedRests_25 : decode cX4_matchedRests 25 = .ok (.ifCond .eq 10, 3) := by decide +kernel
theorem dX4_matchedRests_28 : decode cX4_matchedRests 28 = .ok (.iload_n 3, 1) := by decide +kernel
theorem dX4_matchedRests_29 : decode cX4_matchedRests 29 = .ok (.aload_n 2, 1) := by decide +kernel
theorem dX4_matchedRests_30 : decode cX4_matchedRests 30 = .ok (.iload 4, 2) := by decide +kernel
theorem dX4_matchedRests_32 : decode cX4_matchedRests 32 = .ok (.iaload, 1) := by decide +kernel
theorem dX4_matchedRests_33 : decode cX4_matchedRests 33 = .ok (.iadd, 1) := by decide +kernel
theorem dX4_matchedRests_34 : decode cX4_matchedRests 34 = .ok (.istore_n 3, 1) := by decide +kernel
theorem dX4_matchedRests_35 : decode cX4_matchedRests 35 = .ok (.iinc 4 1, 3) := by decide +kernel
theorem dX4_matchedRests_38 : decode cX4_matchedRests 38 = .ok (.goto (-33), 3) := by decide +kernel
theorem dX4_matchedRests_41 : decode cX4_matchedRests 41 = .ok (.iload_n 3, 1) := by decide +kernel
theorem dX4_matchedRests_42 : decode cX4_matchedRests 42 = .ok (.ireturn, 1) := by decide +kernel
theorem dX4_takeOnes_0 : decode cX4_takeOnes 0 = .ok (.iload_n 3, 1) := by decide +kernel
theorem dX4_takeOnes_1 : decode cX4_takeOnes 1 = .ok (.istore 4, 2) := by decide +kernel
theorem dX4_takeOnes_3 : decode cX4_takeOnes 3 = .ok (.iconst 0, 1) := by decide +kernel
theorem dX4_takeOnes_4 : decode cX4_takeOnes 4 = .ok (.istore 5, 2) := by decide +kernel
theorem dX4_takeOnes_6 : decode cX4_takeOnes 6 = .ok (.iload 5, 2) := by decide +kernel
theorem dX4_takeOnes_8 : decode cX4_takeOnes 8 = .ok (.aload_n 0, 1) := by decide +kernel
theorem dX4_takeOnes_9 : decode cX4_takeOnes 9 = .ok (.getfield 26, 3) := by decide +kernel
theorem dX4_takeOnes_12 : decode cX4_takeOnes 12 = .ok (.if_icmp .ge 46, 3) := by decide +kernel
theorem dX4_takeOnes_15 : decode cX4_takeOnes 15 = .ok (.iload 4, 2) := by decide +kernel
theorem dX4_takeOnes_17 : decode cX4_takeOnes 17 = .ok (.ifCond .le 41, 3) := by decide +kernel
theorem dX4_takeOnes_20 : decode cX4_takeOnes 20 = .ok (.aload_n 2, 1) := by decide +kernel
theorem dX4_takeOnes_21 : decode cX4_takeOnes 21 = .ok (.iload 5, 2) := by decide +kernel
theorem dX4_takeOnes_23 : decode cX4_takeOnes 23 = .ok (.iaload, 1) := by decide +kernel
theorem dX4_takeOnes_24 : decode cX4_takeOnes 24 = .ok (.ifCond .le 28, 3) := by decide +kernel
theorem dX4_takeOnes_27 : decode cX4_takeOnes 27 = .ok (.aload_n 1, 1) := by decide +kernel
theorem dX4_takeOnes_28 : decode cX4_takeOnes 28 = .ok (.aload_n 0, 1) := by decide +kernel
theorem dX4_takeOnes_29 : decode cX4_takeOnes 29 = .ok (.getfield 15, 3) := by decide +kernel
theorem dX4_takeOnes_32 : decode cX4_takeOnes 32 = .ok (.iload 5, 2) := by decide +kernel
theorem dX4_takeOnes_34 : decode cX4_takeOnes 34 = .ok (.iaload, 1) := by decide +kernel
theorem dX4_takeOnes_35 : decode cX4_takeOnes 35 = .ok (.invokevirtual 60, 3) := by decide +kernel
theorem dX4_takeOnes_38 : decode cX4_takeOnes 38 = .ok (.ifCond .eq 14, 3) := by decide +kernel
theorem dX4_takeOnes_41 : decode cX4_takeOnes 41 = .ok (.aload_n 2, 1) := by decide +kernel
theorem dX4_takeOnes_42 : decode cX4_takeOnes 42 = .ok (.iload 5, 2) := by decide +kernel
theorem dX4_takeOnes_44 : decode cX4_takeOnes 44 = .ok (.dup2, 1) := by decide +kernel
theorem dX4_takeOnes_45 : decode cX4_takeOnes 45 = .ok (.iaload, 1) := by decide +kernel
theorem dX4_takeOnes_46 : decode cX4_takeOnes 46 = .ok (.iconst 1, 1) := by decide +kernel
theorem dX4_takeOnes_47 : decode cX4_takeOnes 47 = .ok (.isub, 1) := by decide +kernel
theorem dX4_takeOnes_48 : decode cX4_takeOnes 48 = .ok (.iastore, 1) := by decide +kernel
theorem dX4_takeOnes_49 : decode cX4_takeOnes 49 = .ok (.iinc 4 (-1), 3) := by decide +kernel
theorem dX4_takeOnes_52 : decode cX4_takeOnes 52 = .ok (.iinc 5 1, 3) := by decide +kernel
theorem dX4_takeOnes_55 : decode cX4_takeOnes 55 = .ok (.goto (-49), 3) := by decide +kernel
theorem dX4_takeOnes_58 : decode cX4_takeOnes 58 = .ok (.return_, 1) := by decide +kernel
theorem dX4_takeBundles_0 : decode cX4_takeBundles 0 = .ok (.aload_n 0, 1) := by decide +kernel
theorem dX4_takeBundles_1 : decode cX4_takeBundles 1 = .ok (.aload_n 1, 1) := by decide +kernel
theorem dX4_takeBundles_2 : decode cX4_takeBundles 2 = .ok (.aload_n 2, 1) := by decide +kernel
theorem dX4_takeBundles_3 : decode cX4_takeBundles 3 = .ok (.invokevirtual 81, 3) := by decide +kernel
theorem dX4_takeBundles_6 : decode cX4_takeBundles 6 = .ok (.istore_n 3, 1) := by decide +kernel
theorem dX4_takeBundles_7 : decode cX4_takeBundles 7 = .ok (.iconst 0, 1) := by decide +kernel
theorem dX4_takeBundles_8 : decode cX4_takeBundles 8 = .ok (.istore 4, 2) := by decide +kernel
theorem dX4_takeBundles_10 : decode cX4_takeBundles 10 = .ok (.iconst 0, 1) := by decide +kernel
theorem dX4_takeBundles_11 : decode cX4_takeBundles 11 = .ok (.istore 5, 2) := by decide +kernel
theorem dX4_takeBundles_13 : decode cX4_takeBundles 13 = .ok (.iload 5, 2) := by decide +kernel
theorem dX4_takeBundles_15 : decode cX4_takeBundles 15 = .ok (.iload_n 3, 1) := by decide +kernel
theorem dX4_takeBundles_16 : decode cX4_takeBundles 16 = .ok (.if_icmp .ge 34, 3) := by decide +kernel
theorem dX4_takeBundles_19 : decode cX4_takeBundles 19 = .ok (.iinc 4 1, 3) := by decide +kernel
theorem dX4_takeBundles_22 : decode cX4_takeBundles 22 = .ok (.iload 4, 2) := by decide +kernel
theorem dX4_takeBundles_24 : decode cX4_takeBundles 24 = .ok (.aload_n 1, 1) := by decide +kernel
theorem dX4_takeBundles_25 : decode cX4_takeBundles 25 = .ok (.getfield 64, 3) := by decide +kernel
theorem dX4_takeBundles_28 : decode cX4_takeBundles 28 = .ok (.if_icmp .ne 16, 3) := by decide +kernel
theorem dX4_takeBundles_31 : decode cX4_takeBundles 31 = .ok (.aload_n 2, 1) := by decide +kernel
theorem dX4_takeBundles_32 : decode cX4_takeBundles 32 = .ok (.aload_n 0, 1) := by decide +kernel
theorem dX4_takeBundles_33 : decode cX4_takeBundles 33 = .ok (.getfield 23, 3) := by decide +kernel
theorem dX4_takeBundles_36 : decode cX4_takeBundles 36 = .ok (.iload 5, 2) := by decide +kernel
theorem dX4_takeBundles_38 : decode cX4_takeBundles 38 = .ok (.iaload, 1) := by decide +kernel
theorem dX4_takeBundles_39 : decode cX4_takeBundles 39 = .ok (.iconst 0, 1) := by decide +kernel
theorem dX4_takeBundles_40 : decode cX4_takeBundles 40 = .ok (.iastore, 1) := by decide +kernel
theorem dX4_takeBundles_41 : decode cX4_takeBundles 41 = .ok (.iconst 0, 1) := by decide +kernel
theorem dX4_takeBundles_42 : decode cX4_takeBundles 42 = .ok (.istore 4, 2) := by decide +kernel
theorem dX4_takeBundles_44 : decode cX4_takeBundles 44 = .ok (.iinc 5 1, 3) := by decide +kernel
theorem dX4_takeBundles_47 : decode cX4_takeBundles 47 = .ok (.goto (-34), 3) := by decide +kernel
theorem dX4_takeBundles_50 : decode cX4_takeBundles 50 = .ok (.return_, 1) := by decide +kernel
theorem dX4_rankMatched_0 : decode cX4_rankMatched 0 = .ok (.iconst 0, 1) := by decide +kernel
theorem dX4_rankMatched_1 : decode cX4_rankMatched 1 = .ok (.istore_n 3, 1) := by decide +kernel
theorem dX4_rankMatched_2 : decode cX4_rankMatched 2 = .ok (.iconst 0, 1) := by decide +kernel
theorem dX4_rankMatched_3 : decode cX4_rankMatched 3 = .ok (.istore 4, 2) := by decide +kernel
theorem dX4_rankMatched_5 : decode cX4_rankMatched 5 = .ok (.iload 4, 2) := by decide +kernel
theorem dX4_rankMatched_7 : decode cX4_rankMatched 7 = .ok (.aload_n 0, 1) := by decide +kernel
theorem dX4_rankMatched_8 : decode cX4_rankMatched 8 = .ok (.getfield 26, 3) := by decide +kernel
theorem dX4_rankMatched_11 : decode cX4_rankMatched 11 = .ok (.if_icmp .ge 83, 3) := by decide +kernel
theorem dX4_rankMatched_14 : decode cX4_rankMatched 14 = .ok (.aload_n 1, 1) := by decide +kernel
theorem dX4_rankMatched_15 : decode cX4_rankMatched 15 = .ok (.aload_n 0, 1) := by decide +kernel
theorem dX4_rankMatched_16 : decode cX4_rankMatched 16 = .ok (.getfield 15, 3) := by decide +kernel
theorem dX4_rankMatched_19 : decode cX4_rankMatched 19 = .ok (.iload 4, 2) := by decide +kernel
theorem dX4_rankMatched_21 : decode cX4_rankMatched 21 = .ok (.iaload, 1) := by decide +kernel
theorem dX4_rankMatched_22 : decode cX4_rankMatched 22 = .ok (.invokevirtual 60, 3) := by decide +kernel
theorem dX4_rankMatched_25 : decode cX4_rankMatched 25 = .ok (.ifCond .eq 63, 3) := by decide +kernel
theorem dX4_rankMatched_28 : decode cX4_rankMatched 28 = .ok (.iload_n 3, 1) := by decide +kernel
theorem dX4_rankMatched_29 : decode cX4_rankMatched 29 = .ok (.istore 5, 2) := by decide +kernel
theorem dX4_rankMatched_31 : decode cX4_rankMatched 31 = .ok (.iload 5, 2) := by decide +kernel
theorem dX4_rankMatched_33 : decode cX4_rankMatched 33 = .ok (.ifCond .le 43, 3) := by decide +kernel
theorem dX4_rankMatched_36 : decode cX4_rankMatched 36 = .ok (.aload_n 2, 1) := by decide +kernel
theorem dX4_rankMatched_37 : decode cX4_rankMatched 37 = .ok (.aload_n 0, 1) := by decide +kernel
theorem dX4_rankMatched_38 : decode cX4_rankMatched 38 = .ok (.getfield 23, 3) := by decide +kernel
theorem dX4_rankMatched_41 : decode cX4_rankMatched 41 = .ok (.iload 5, 2) := by decide +kernel
theorem dX4_rankMatched_43 : decode cX4_rankMatched 43 = .ok (.iconst 1, 1) := by decide +kernel
theorem dX4_rankMatched_44 : decode cX4_rankMatched 44 = .ok (.isub, 1) := by decide +kernel
theorem dX4_rankMatched_45 : decode cX4_rankMatched 45 = .ok (.iaload, 1) := by decide +kernel
theorem dX4_rankMatched_46 : decode cX4_rankMatched 46 = .ok (.iaload, 1) := by decide +kernel
theorem dX4_rankMatched_47 : decode cX4_rankMatched 47 = .ok (.aload_n 2, 1) := by decide +kernel
theorem dX4_rankMatched_48 : decode cX4_rankMatched 48 = .ok (.iload 4, 2) := by decide +kernel
theorem dX4_rankMatched_50 : decode cX4_rankMatched 50 = .ok (.iaload, 1) := by decide +kernel
theorem dX4_rankMatched_51 : decode cX4_rankMatched 51 = .ok (.if_icmp .ge 25, 3) := by decide +kernel
theorem dX4_rankMatched_54 : decode cX4_rankMatched 54 = .ok (.aload_n 0, 1) := by decide +kernel
theorem dX4_rankMatched_55 : decode cX4_rankMatched 55 = .ok (.getfield 23, 3) := by decide +kernel
theorem dX4_rankMatched_58 : decode cX4_rankMatched 58 = .ok (.iload 5, 2) := by decide +kernel
theorem dX4_rankMatched_60 : decode cX4_rankMatched 60 = .ok (.aload_n 0, 1) := by decide +kernel
theorem dX4_rankMatched_61 : decode cX4_rankMatched 61 = .ok (.getfield 23, 3) := by decide +kernel
theorem dX4_rankMatched_64 : decode cX4_rankMatched 64 = .ok (.iload 5, 2) := by decide +kernel
theorem dX4_rankMatched_66 : decode cX4_rankMatched 66 = .ok (.iconst 1, 1) := by decide +kernel
theorem dX4_rankMatched_67 : decode cX4_rankMatched 67 = .ok (.isub, 1) := by decide +kernel
theorem dX4_rankMatched_68 : decode cX4_rankMatched 68 = .ok (.iaload, 1) := by decide +kernel
theorem dX4_rankMatched_69 : decode cX4_rankMatched 69 = .ok (.iastore, 1) := by decide +kernel
theorem dX4_rankMatched_70 : decode cX4_rankMatched 70 = .ok (.iinc 5 (-1), 3) := by decide +kernel
theorem dX4_rankMatched_73 : decode cX4_rankMatched 73 = .ok (.goto (-42), 3) := by decide +kernel
theorem dX4_rankMatched_76 : decode cX4_rankMatched 76 = .ok (.aload_n 0, 1) := by decide +kernel
theorem dX4_rankMatched_77 : decode cX4_rankMatched 77 = .ok (.getfield 23, 3) := by decide +kernel
theorem dX4_rankMatched_80 : decode cX4_rankMatched 80 = .ok (.iload 5, 2) := by decide +kernel
theorem dX4_rankMatched_82 : decode cX4_rankMatched 82 = .ok (.iload 4, 2) := by decide +kernel
theorem dX4_rankMatched_84 : decode cX4_rankMatched 84 = .ok (.iastore, 1) := by decide +kernel
theorem dX4_rankMatched_85 : decode cX4_rankMatched 85 = .ok (.iinc 3 1, 3) := by decide +kernel
theorem dX4_rankMatched_88 : decode cX4_rankMatched 88 = .ok (.iinc 4 1, 3) := by decide +kernel
theorem dX4_rankMatched_91 : decode cX4_rankMatched 91 = .ok (.goto (-86), 3) := by decide +kernel
theorem dX4_rankMatched_94 : decode cX4_rankMatched 94 = .ok (.iload_n 3, 1) := by decide +kernel
theorem dX4_rankMatched_95 : decode cX4_rankMatched 95 = .ok (.ireturn, 1) := by decide +kernel
theorem dX5_init_0 : decode cX5_init 0 = .ok (.aload_n 0, 1) := by decide +kernel
theorem dX5_init_1 : decode cX5_init 1 = .ok (.invokespecial 3, 3) := by decide +kernel
theorem dX5_init_4 : decode cX5_init 4 = .ok (.aload_n 0, 1) := by decide +kernel
theorem dX5_init_5 : decode cX5_init 5 = .ok (.new 9, 3) := by decide +kernel
theorem dX5_init_8 : decode cX5_init 8 = .ok (.dup, 1) := by decide +kernel
theorem dX5_init_9 : decode cX5_init 9 = .ok (.invokespecial 11, 3) := by decide +kernel
theorem dX5_init_12 : decode cX5_init 12 = .ok (.putfield 12, 3) := by decide +kernel
theorem dX5_init_15 : decode cX5_init 15 = .ok (.aload_n 0, 1) := by decide +kernel
theorem dX5_init_16 : decode cX5_init 16 = .ok (.bipush 8, 2) := by decide +kernel
theorem dX5_init_18 : decode cX5_init 18 = .ok (.anewarray 16, 3) := by decide +kernel
theorem dX5_init_21 : decode cX5_init 21 = .ok (.putfield 18, 3) := by decide +kernel
theorem dX5_init_24 : decode cX5_init 24 = .ok (.aload_n 0, 1) := by decide +kernel
theorem dX5_init_25 : decode cX5_init 25 = .ok (.bipush 12, 2) := by decide +kernel
theorem dX5_init_27 : decode cX5_init 27 = .ok (.anewarray 22, 3) := by decide +kernel
theorem dX5_init_30 : decode cX5_init 30 = .ok (.putfield 24, 3) := by decide +kernel
theorem dX5_init_33 : decode cX5_init 33 = .ok (.aload_n 0, 1) := by decide +kernel
theorem dX5_init_34 : decode cX5_init 34 = .ok (.new 28, 3) := by decide +kernel
theorem dX5_init_37 : decode cX5_init 37 = .ok (.dup, 1) := by decide +kernel
theorem dX5_init_38 : decode cX5_init 38 = .ok (.invokespecial 30, 3) := by decide +kernel
theorem dX5_init_41 : decode cX5_init 41 = .ok (.putfield 31, 3) := by decide +kernel
theorem dX5_init_44 : decode cX5_init 44 = .ok (.aload_n 0, 1) := by decide +kernel
theorem dX5_init_45 : decode cX5_init 45 = .ok (.new 35, 3) := by decide +kernel
theorem dX5_init_48 : decode cX5_init 48 = .ok (.dup, 1) := by decide +kernel
theorem dX5_init_49 : decode cX5_init 49 = .ok (.invokespecial 37, 3) := by decide +kernel
theorem dX5_init_52 : decode cX5_init 52 = .ok (.putfield 38, 3) := by decide +kernel
theorem dX5_init_55 : decode cX5_init 55 = .ok (.aload_n 0, 1) := by decide +kernel
theorem dX5_init_56 : decode cX5_init 56 = .ok (.iconst 0, 1) := by decide +kernel
theorem dX5_init_57 : decode cX5_init 57 = .ok (.putfield 42, 3) := by decide +kernel
theorem dX5_init_60 : decode cX5_init 60 = .ok (.aload_n 0, 1) := by decide +kernel
theorem dX5_init_61 : decode cX5_init 61 = .ok (.iconst 0, 1) := by decide +kernel
theorem dX5_init_62 : decode cX5_init 62 = .ok (.putfield 46, 3) := by decide +kernel
theorem dX5_init_65 : decode cX5_init 65 = .ok (.aload_n 0, 1) := by decide +kernel
theorem dX5_init_66 : decode cX5_init 66 = .ok (.iconst 0, 1) := by decide +kernel
theorem dX5_init_67 : decode cX5_init 67 = .ok (.putfield 49, 3) := by decide +kernel
theorem dX5_init_70 : decode cX5_init 70 = .ok (.aload_n 0, 1) := by decide +kernel
theorem dX5_init_71 : decode cX5_init 71 = .ok (.iconst 0, 1) := by decide +kernel
theorem dX5_init_72 : decode cX5_init 72 = .ok (.putfield 52, 3) := by decide +kernel
theorem dX5_init_75 : decode cX5_init 75 = .ok (.aload_n 0, 1) := by decide +kernel
theorem dX5_init_76 : decode cX5_init 76 = .ok (.ldc 55, 2) := by decide +kernel
theorem dX5_init_78 : decode cX5_init 78 = .ok (.putfield 56, 3) := by decide +kernel
theorem dX5_init_81 : decode cX5_init 81 = .ok (.iconst 0, 1) := by decide +kernel
theorem dX5_init_82 : decode cX5_init 82 = .ok (.istore_n 1, 1) := by decide +kernel
theorem dX5_init_83 : decode cX5_init 83 = .ok (.iload_n 1, 1) := by decide +kernel
theorem dX5_init_84 : decode cX5_init 84 = .ok (.bipush 8, 2) := by decide +kernel
theorem dX5_init_86 : decode cX5_init 86 = .ok (.if_icmp .ge 22, 3) := by decide +kernel
theorem dX5_init_89 : decode cX5_init 89 = .ok (.aload_n 0, 1) := by decide +kernel
theorem dX5_init_90 : decode cX5_init 90 = .ok (.getfield 18, 3) := by decide +kernel
theorem dX5_init_93 : decode cX5_init 93 = .ok (.iload_n 1, 1) := by decide +kernel
theorem dX5_init_94 : decode cX5_init 94 = .ok (.new 16, 3) := by decide +kernel
theorem dX5_init_97 : decode cX5_init 97 = .ok (.dup, 1) := by decide +kernel
theorem dX5_init_98 : decode cX5_init 98 = .ok (.invokespecial 59, 3) := by decide +kernel
theorem dX5_init_101 : decode cX5_init 101 = .ok (.aastore, 1) := by decide +kernel
theorem dX5_init_102 : decode cX5_init 102 = .ok (.iinc 1 1, 3) := by decide +kernel
theorem dX5_init_105 : decode cX5_init 105 = .ok (.goto (-22), 3) := by decide +kernel
theorem dX5_init_108 : decode cX5_init 108 = .ok (.iconst 0, 1) := by decide +kernel
theorem dX5_init_109 : decode cX5_init 109 = .ok (.istore_n 1, 1) := by decide +kernel
theorem dX5_init_110 : decode cX5_init 110 = .ok (.iload_n 1, 1) := by decide +kernel
theorem dX5_init_111 : decode cX5_init 111 = .ok (.bipush 12, 2) := by decide +kernel
theorem dX5_init_113 : decode cX5_init 113 = .ok (.if_icmp .ge 22, 3) := by decide +kernel
theorem dX5_init_116 : decode cX5_init 116 = .ok (.aload_n 0, 1) := by decide +kernel
theorem dX5_init_117 : decode cX5_init 117 = .ok (.getfield 24, 3) := by decide +kernel
theorem dX5_init_120 : decode cX5_init 120 = .ok (.iload_n 1, 1) := by decide +kernel
theorem dX5_init_121 : decode cX5_init 121 = .ok (.new 22, 3) := by decide +kernel
theorem dX5_init_124 : decode cX5_init 124 = .ok (.dup, 1) := by decide +kernel
theorem dX5_init_125 : decode cX5_init 125 = .ok (.invokespecial 60, 3) := by decide +kernel
theorem dX5_init_128 : decode cX5_init 128 = .ok (.aastore, 1) := by decide +kernel
theorem dX5_init_129 : decode cX5_init 129 = .ok (.iinc 1 1, 3) := by decide +kernel
theorem dX5_init_132 : decode cX5_init 132 = .ok (.goto (-22), 3) := by decide +kernel
theorem dX5_init_135 : decode cX5_init 135 = .ok (.return_, 1) := by decide +kernel
theorem dX5_addArticle_0 : decode cX5_addArticle 0 = .ok (.iload_n 1, 1) := by decide +kernel
theorem dX5_addArticle_1 : decode cX5_addArticle 1 = .ok (.invokestatic 61, 3) := by decide +kernel
theorem dX5_addArticle_4 : decode cX5_addArticle 4 = .ok (.iload_n 2, 1) := by decide +kernel
theorem dX5_addArticle_5 : decode cX5_addArticle 5 = .ok (.ifCond .lt 9, 3) := by decide +kernel
theorem dX5_addArticle_8 : decode cX5_addArticle 8 = .ok (.iload_n 2, 1) := by decide +kernel
theorem dX5_addArticle_9 : decode cX5_addArticle 9 = .ok (.bipush 7, 2) := by decide +kernel
theorem dX5_addArticle_11 : decode cX5_addArticle 11 = .ok (.if_icmp .le 13, 3) := by decide +kernel
theorem dX5_addArticle_14 : decode cX5_addArticle 14 = .ok (.new 65, 3) := by decide +kernel
theorem dX5_addArticle_17 : decode cX5_addArticle 17 = .ok (.dup, 1) := by decide +kernel
theorem dX5_addArticle_18 : decode cX5_addArticle 18 = .ok (.ldc 67, 2) := by decide +kernel
theorem dX5_addArticle_20 : decode cX5_addArticle 20 = .ok (.invokespecial 69, 3) := by decide +kernel
theorem dX5_addArticle_23 : decode cX5_addArticle 23 = .ok (.athrow, 1) := by decide +kernel
theorem dX5_addArticle_24 : decode cX5_addArticle 24 = .ok (.aload_n 0, 1) := by decide +kernel
theorem dX5_addArticle_25 : decode cX5_addArticle 25 = .ok (.getfield 42, 3) := by decide +kernel
theorem dX5_addArticle_28 : decode cX5_addArticle 28 = .ok (.bipush 10, 2) := by decide +kernel
theorem dX5_addArticle_30 : decode cX5_addArticle 30 = .ok (.if_icmp .lt 13, 3) := by decide +kernel
theorem dX5_addArticle_33 : decode cX5_addArticle 33 = .ok (.new 72, 3) := by decide +kernel
theorem dX5_addArticle_36 : decode cX5_addArticle 36 = .ok (.dup, 1) := by decide +kernel
theorem dX5_addArticle_37 : decode cX5_addArticle 37 = .ok (.ldc 74, 2) := by decide +kernel
theorem dX5_addArticle_39 : decode cX5_addArticle 39 = .ok (.invokespecial 76, 3) := by decide +kernel
theorem dX5_addArticle_42 : decode cX5_addArticle 42 = .ok (.athrow, 1) := by decide +kernel
theorem dX5_addArticle_43 : decode cX5_addArticle 43 = .ok (.aload_n 0, 1) := by decide +kernel
theorem dX5_addArticle_44 : decode cX5_addArticle 44 = .ok (.getfield 42, 3) := by decide +kernel
theorem dX5_addArticle_47 : decode cX5_addArticle 47 = .ok (.istore_n 3, 1) := by decide +kernel
theorem dX5_addArticle_48 : decode cX5_addArticle 48 = .ok (.aload_n 0, 1) := by decide +kernel
theorem dX5_addArticle_49 : decode cX5_addArticle 49 = .ok (.getfield 12, 3) := by decide +kernel
theorem dX5_addArticle_52 : decode cX5_addArticle 52 = .ok (.getfield 77, 3) := by decide +kernel
theorem dX5_addArticle_55 : decode cX5_addArticle 55 = .ok (.iload_n 3, 1) := by decide +kernel
theorem dX5_addArticle_56 : decode cX5_addArticle 56 = .ok (.iload_n 1, 1) := by decide +kernel
theorem dX5_addArticle_57 : decode cX5_addArticle 57 = .ok (.iastore, 1) := by decide +kernel
theorem dX5_addArticle_58 : decode cX5_addArticle 58 = .ok (.aload_n 0, 1) := by decide +kernel
theorem dX5_addArticle_59 : decode cX5_addArticle 59 = .ok (.getfield 12, 3) := by decide +kernel
theorem dX5_addArticle_62 : decode cX5_addArticle 62 = .ok (.getfield 81, 3) := by decide +kernel
theorem dX5_addArticle_65 : decode cX5_addArticle 65 = .ok (.iload_n 3, 1) := by decide +kernel
theorem dX5_addArticle_66 : decode cX5_addArticle 66 = .ok (.iload_n 2, 1) := by decide +kernel
theorem dX5_addArticle_67 : decode cX5_addArticle 67 = .ok (.iastore, 1) := by decide +kernel
theorem dX5_addArticle_68 : decode cX5_addArticle 68 = .ok (.aload_n 0, 1) := by decide +kernel
theorem dX5_addArticle_69 : decode cX5_addArticle 69 = .ok (.dup, 1) := by decide +kernel
theorem dX5_addArticle_70 : decode cX5_addArticle 70 = .ok (.getfield 42, 3) := by decide +kernel
theorem dX5_addArticle_73 : decode cX5_addArticle 73 = .ok (.iconst 1, 1) := by decide +kernel
theorem dX5_addArticle_74 : decode cX5_addArticle 74 = .ok (.iadd, 1) := by decide +kernel
theorem dX5_addArticle_75 : decode cX5_addArticle 75 = .ok (.putfield 42, 3) := by decide +kernel
theorem dX5_addArticle_78 : decode cX5_addArticle 78 = .ok (.iload_n 3, 1) := by decide +kernel
theorem dX5_addArticle_79 : decode cX5_addArticle 79 = .ok (.ireturn, 1) := by decide +kernel
theorem dX5_setPrice_0 : decode cX5_setPrice 0 = .ok (.aload_n 0, 1) := by decide +kernel
theorem dX5_setPrice_1 : decode cX5_setPrice 1 = .ok (.iload_n 1, 1) := by decide +kernel
theorem dX5_setPrice_2 : decode cX5_setPrice 2 = .ok (.invokevirtual 84, 3) := by decide +kernel
theorem dX5_setPrice_5 : decode cX5_setPrice 5 = .ok (.iload_n 2, 1) := by decide +kernel
theorem dX5_setPrice_6 : decode cX5_setPrice 6 = .ok (.invokestatic 61, 3) := by decide +kernel
theorem dX5_setPrice_9 : decode cX5_setPrice 9 = .ok (.aload_n 0, 1) := by decide +kernel
theorem dX5_setPrice_10 : decode cX5_setPrice 10 = .ok (.getfield 12, 3) := by decide +kernel
theorem dX5_setPrice_13 : decode cX5_setPrice 13 = .ok (.getfield 77, 3) := by decide +kernel
theorem dX5_setPrice_16 : decode cX5_setPrice 16 = .ok (.iload_n 1, 1) := by decide +kernel
theorem dX5_setPrice_17 : decode cX5_setPrice 17 = .ok (.iaload, 1) := by decide +kernel
theorem dX5_setPrice_18 : decode cX5_setPrice 18 = .ok (.istore_n 3, 1) := by decide +kernel
theorem dX5_setPrice_19 : decode cX5_setPrice 19 = .ok (.aload_n 0, 1) := by decide +kernel
theorem dX5_setPrice_20 : decode cX5_setPrice 20 = .ok (.getfield 12, 3) := by decide +kernel
theorem dX5_setPrice_23 : decode cX5_setPrice 23 = .ok (.getfield 77, 3) := by decide +kernel
theorem dX5_setPrice_26 : decode cX5_setPrice 26 = .ok (.iload_n 1, 1) := by decide +kernel
theorem dX5_setPrice_27 : decode cX5_setPrice 27 = .ok (.iload_n 2, 1) := by decide +kernel
theorem dX5_setPrice_28 : decode cX5_setPrice 28 = .ok (.iastore, 1) := by decide +kernel
theorem dX5_setPrice_29 : decode cX5_setPrice 29 = .ok (.iload_n 3, 1) := by decide +kernel
theorem dX5_setPrice_30 : decode cX5_setPrice 30 = .ok (.ireturn, 1) := by decide +kernel
theorem dX5_put_0 : decode cX5_put 0 = .ok (.aload_n 0, 1) := by decide +kernel
theorem dX5_put_1 : decode cX5_put 1 = .ok (.iload_n 1, 1) := by decide +kernel
theorem dX5_put_2 : decode cX5_put 2 = .ok (.invokevirtual 84, 3) := by decide +kernel
theorem dX5_put_5 : decode cX5_put 5 = .ok (.iload_n 2, 1) := by decide +kernel
theorem dX5_put_6 : decode cX5_put 6 = .ok (.ifCond .lt 9, 3) := by decide +kernel
theorem dX5_put_9 : decode cX5_put 9 = .ok (.iload_n 2, 1) := by decide +kernel
theorem dX5_put_10 : decode cX5_put 10 = .ok (.bipush 6, 2) := by decide +kernel
theorem dX5_put_12 : decode cX5_put 12 = .ok (.if_icmp .le 13, 3) := by decide +kernel
theorem dX5_put_15 : decode cX5_put 15 = .ok (.new 65, 3) := by decide +kernel
theorem dX5_put_18 : decode cX5_put 18 = .ok (.dup, 1) := by decide +kernel
theorem dX5_put_19 : decode cX5_put 19 = .ok (.ldc 87, 2) := by decide +kernel
theorem dX5_put_21 : decode cX5_put 21 = .ok (.invokespecial 69, 3) := by decide +kernel
theorem dX5_put_24 : decode cX5_put 24 = .ok (.athrow, 1) := by decide +kernel
theorem dX5_put_25 : decode cX5_put 25 = .ok (.aload_n 0, 1) := by decide +kernel
theorem dX5_put_26 : decode cX5_put 26 = .ok (.getfield 12, 3) := by decide +kernel
theorem dX5_put_29 : decode cX5_put 29 = .ok (.getfield 89, 3) := by decide +kernel
theorem dX5_put_32 : decode cX5_put 32 = .ok (.iload_n 1, 1) := by decide +kernel
theorem dX5_put_33 : decode cX5_put 33 = .ok (.iaload, 1) := by decide +kernel
theorem dX5_put_34 : decode cX5_put 34 = .ok (.istore_n 3, 1) := by decide +kernel
theorem dX5_put_35 : decode cX5_put 35 = .ok (.aload_n 0, 1) := by decide +kernel
theorem dX5_put_36 : decode cX5_put 36 = .ok (.getfield 12, 3) := by decide +kernel
theorem dX5_put_39 : decode cX5_put 39 = .ok (.getfield 89, 3) := by decide +kernel
theorem dX5_put_42 : decode cX5_put 42 = .ok (.iload_n 1, 1) := by decide +kernel
theorem dX5_put_43 : decode cX5_put 43 = .ok (.iload_n 2, 1) := by decide +kernel
theorem dX5_put_44 : decode cX5_put 44 = .ok (.iastore, 1) := by decide +kernel
theorem dX5_put_45 : decode cX5_put 45 = .ok (.iload_n 3, 1) := by decide +kernel
theorem dX5_put_46 : decode cX5_put 46 = .ok (.ireturn, 1) := by decide +kernel
theorem dX5_value_0 : decode cX5_value 0 = .ok (.aload_n 0, 1) := by decide +kernel
theorem dX5_value_1 : decode cX5_value 1 = .ok (.getfield 12, 3) := by decide +kernel
theorem dX5_value_4 : decode cX5_value 4 = .ok (.sipush 255, 3) := by decide +kernel
theorem dX5_value_7 : decode cX5_value 7 = .ok (.invokevirtual 92, 3) := by decide +kernel
theorem dX5_value_10 : decode cX5_value 10 = .ok (.ireturn, 1) := by decide +kernel
theorem dX5_setShipping_0 : decode cX5_setShipping 0 = .ok (.iload_n 1, 1) := by decide +kernel
theorem dX5_setShipping_1 : decode cX5_setShipping 1 = .ok (.ifCond .lt 10, 3) := by decide +kernel
theorem dX5_setShipping_4 : decode cX5_setShipping 4 = .ok (.iload_n 1, 1) := by decide +kernel
theorem dX5_setShipping_5 : decode cX5_setShipping 5 = .ok (.sipush 10000, 3) := by decide +kernel
theorem dX5_setShipping_8 : decode cX5_setShipping 8 = .ok (.if_icmp .le 13, 3) := by decide +kernel
theorem dX5_setShipping_11 : decode cX5_setShipping 11 = .ok (.new 65, 3) := by decide +kernel
theorem dX5_setShipping_14 : decode cX5_setShipping 14 = .ok (.dup, 1) := by decide +kernel
theorem dX5_setShipping_15 : decode cX5_setShipping 15 = .ok (.ldc 96, 2) := by decide +kernel
theorem dX5_setShipping_17 : decode cX5_setShipping 17 = .ok (.invokespecial 69, 3) := by decide +kernel
theorem dX5_setShipping_20 : decode cX5_setShipping 20 = .ok (.athrow, 1) := by decide +kernel
theorem dX5_setShipping_21 : decode cX5_setShipping 21 = .ok (.iload_n 2, 1) := by decide +kernel
theorem dX5_setShipping_22 : decode cX5_setShipping 22 = .ok (.ifCond .lt 9, 3) := by decide +kernel
theorem dX5_setShipping_25 : decode cX5_setShipping 25 = .ok (.iload_n 2, 1) := by decide +kernel
theorem dX5_setShipping_26 : decode cX5_setShipping 26 = .ok (.ldc 55, 2) := by decide +kernel
theorem dX5_setShipping_28 : decode cX5_setShipping 28 = .ok (.if_icmp .le 13, 3) := by decide +kernel
theorem dX5_setShipping_31 : decode cX5_setShipping 31 = .ok (.new 65, 3) := by decide +kernel
theorem dX5_setShipping_34 : decode cX5_setShipping 34 = .ok (.dup, 1) := by decide +kernel
theorem dX5_setShipping_35 : decode cX5_setShipping 35 = .ok (.ldc 98, 2) := by decide +kernel
theorem dX5_setShipping_37 : decode cX5_setShipping 37 = .ok (.invokespecial 69, 3) := by decide +kernel
theorem dX5_setShipping_40 : decode cX5_setShipping 40 = .ok (.athrow, 1) := by decide +kernel
theorem dX5_setShipping_41 : decode cX5_setShipping 41 = .ok (.aload_n 0, 1) := by decide +kernel
theorem dX5_setShipping_42 : decode cX5_setShipping 42 = .ok (.getfield 52, 3) := by decide +kernel
theorem dX5_setShipping_45 : decode cX5_setShipping 45 = .ok (.istore_n 3, 1) := by decide +kernel
theorem dX5_setShipping_46 : decode cX5_setShipping 46 = .ok (.aload_n 0, 1) := by decide +kernel
theorem dX5_setShipping_47 : decode cX5_setShipping 47 = .ok (.iload_n 1, 1) := by decide +kernel
theorem dX5_setShipping_48 : decode cX5_setShipping 48 = .ok (.putfield 52, 3) := by decide +kernel
theorem dX5_setShipping_51 : decode cX5_setShipping 51 = .ok (.aload_n 0, 1) := by decide +kernel
theorem dX5_setShipping_52 : decode cX5_setShipping 52 = .ok (.iload_n 2, 1) := by decide +kernel
theorem dX5_setShipping_53 : decode cX5_setShipping 53 = .ok (.putfield 56, 3) := by decide +kernel
theorem dX5_setShipping_56 : decode cX5_setShipping 56 = .ok (.iload_n 3, 1) := by decide +kernel
theorem dX5_setShipping_57 : decode cX5_setShipping 57 = .ok (.ireturn, 1) := by decide +kernel
theorem dX5_addCoupon_0 : decode cX5_addCoupon 0 = .ok (.iload_n 1, 1) := by decide +kernel
theorem dX5_addCoupon_1 : decode cX5_addCoupon 1 = .ok (.iload_n 2, 1) := by decide +kernel
theorem dX5_addCoupon_2 : decode cX5_addCoupon 2 = .ok (.invokestatic 100, 3) := by decide +kernel
theorem dX5_addCoupon_5 : decode cX5_addCoupon 5 = .ok (.ifCond .ne 13, 3) := by decide +kernel
theorem dX5_addCoupon_8 : decode cX5_addCoupon 8 = .ok (.new 65, 3) := by decide +kernel
theorem dX5_addCoupon_11 : decode cX5_addCoupon 11 = .ok (.dup, 1) := by decide +kernel
theorem dX5_addCoupon_12 : decode cX5_addCoupon 12 = .ok (.ldc 104, 2) := by decide +kernel
theorem dX5_addCoupon_14 : decode cX5_addCoupon 14 = .ok (.invokespecial 69, 3) := by decide +kernel
theorem dX5_addCoupon_17 : decode cX5_addCoupon 17 = .ok (.athrow, 1) := by decide +kernel
theorem dX5_addCoupon_18 : decode cX5_addCoupon 18 = .ok (.iload_n 3, 1) := by decide +kernel
theorem dX5_addCoupon_19 : decode cX5_addCoupon 19 = .ok (.iconst 1, 1) := by decide +kernel
theorem dX5_addCoupon_20 : decode cX5_addCoupon 20 = .ok (.if_icmp .lt 10, 3) := by decide +kernel
theorem dX5_addCoupon_23 : decode cX5_addCoupon 23 = .ok (.iload_n 3, 1) := by decide +kernel
theorem dX5_addCoupon_24 : decode cX5_addCoupon 24 = .ok (.sipush 255, 3) := by decide +kernel
theorem dX5_addCoupon_27 : decode cX5_addCoupon 27 = .ok (.if_icmp .le 13, 3) := by decide +kernel
theorem dX5_addCoupon_30 : decode cX5_addCoupon 30 = .ok (.new 65, 3) := by decide +kernel
theorem dX5_addCoupon_33 : decode cX5_addCoupon 33 = .ok (.dup, 1) := by decide +kernel
theorem dX5_addCoupon_34 : decode cX5_addCoupon 34 = .ok (.ldc 106, 2) := by decide +kernel
theorem dX5_addCoupon_36 : decode cX5_addCoupon 36 = .ok (.invokespecial 69, 3) := by decide +kernel
theorem dX5_addCoupon_39 : decode cX5_addCoupon 39 = .ok (.athrow, 1) := by decide +kernel
theorem dX5_addCoupon_40 : decode cX5_addCoupon 40 = .ok (.iload 4, 2) := by decide +kernel
theorem dX5_addCoupon_42 : decode cX5_addCoupon 42 = .ok (.ifCond .lt 10, 3) := by decide +kernel
theorem dX5_addCoupon_45 : decode cX5_addCoupon 45 = .ok (.iload 4, 2) := by decide +kernel
theorem dX5_addCoupon_47 : decode cX5_addCoupon 47 = .ok (.ldc 55, 2) := by decide +kernel
theorem dX5_addCoupon_49 : decode cX5_addCoupon 49 = .ok (.if_icmp .le 13, 3) := by decide +kernel
theorem dX5_addCoupon_52 : decode cX5_addCoupon 52 = .ok (.new 65, 3) := by decide +kernel
theorem dX5_addCoupon_55 : decode cX5_addCoupon 55 = .ok (.dup, 1) := by decide +kernel
theorem dX5_addCoupon_56 : decode cX5_addCoupon 56 = .ok (.ldc 108, 2) := by decide +kernel
theorem dX5_addCoupon_58 : decode cX5_addCoupon 58 = .ok (.invokespecial 69, 3) := by decide +kernel
theorem dX5_addCoupon_61 : decode cX5_addCoupon 61 = .ok (.athrow, 1) := by decide +kernel
theorem dX5_addCoupon_62 : decode cX5_addCoupon 62 = .ok (.iload 5, 2) := by decide +kernel
theorem dX5_addCoupon_64 : decode cX5_addCoupon 64 = .ok (.ifCond .lt 9, 3) := by decide +kernel
theorem dX5_addCoupon_67 : decode cX5_addCoupon 67 = .ok (.iload 5, 2) := by decide +kernel
theorem dX5_addCoupon_69 : decode cX5_addCoupon 69 = .ok (.iconst 3, 1) := by decide +kernel
theorem dX5_addCoupon_70 : decode cX5_addCoupon 70 = .ok (.if_icmp .le 13, 3) := by decide +kernel
theorem dX5_addCoupon_73 : decode cX5_addCoupon 73 = .ok (.new 65, 3) := by decide +kernel
theorem dX5_addCoupon_76 : decode cX5_addCoupon 76 = .ok (.dup, 1) := by decide +kernel
theorem dX5_addCoupon_77 : decode cX5_addCoupon 77 = .ok (.ldc 110, 2) := by decide +kernel
theorem dX5_addCoupon_79 : decode cX5_addCoupon 79 = .ok (.invokespecial 69, 3) := by decide +kernel
theorem dX5_addCoupon_82 : decode cX5_addCoupon 82 = .ok (.athrow, 1) := by decide +kernel
theorem dX5_addCoupon_83 : decode cX5_addCoupon 83 = .ok (.aload_n 0, 1) := by decide +kernel
theorem dX5_addCoupon_84 : decode cX5_addCoupon 84 = .ok (.getfield 46, 3) := by decide +kernel
theorem dX5_addCoupon_87 : decode cX5_addCoupon 87 = .ok (.bipush 8, 2) := by decide +kernel
theorem dX5_addCoupon_89 : decode cX5_addCoupon 89 = .ok (.if_icmp .lt 13, 3) := by decide +kernel
theorem dX5_addCoupon_92 : decode cX5_addCoupon 92 = .ok (.new 72, 3) := by decide +kernel
theorem dX5_addCoupon_95 : decode cX5_addCoupon 95 = .ok (.dup, 1) := by decide +kernel
theorem dX5_addCoupon_96 : decode cX5_addCoupon 96 = .ok (.ldc 112, 2) := by decide +kernel
theorem dX5_addCoupon_98 : decode cX5_addCoupon 98 = .ok (.invokespecial 76, 3) := by decide +kernel
theorem dX5_addCoupon_101 : decode cX5_addCoupon 101 = .ok (.athrow, 1) := by decide +kernel
theorem dX5_addCoupon_102 : decode cX5_addCoupon 102 = .ok (.aload_n 0, 1) := by decide +kernel
theorem dX5_addCoupon_103 : decode cX5_addCoupon 103 = .ok (.getfield 46, 3) := by decide +kernel
theorem dX5_addCoupon_106 : decode cX5_addCoupon 106 = .ok (.istore 6, 2) := by decide +kernel
theorem dX5_addCoupon_108 : decode cX5_addCoupon 108 = .ok (.aload_n 0, 1) := by decide +kernel
theorem dX5_addCoupon_109 : decode cX5_addCoupon 109 = .ok (.getfield 18, 3) := by decide +kernel
theorem dX5_addCoupon_112 : decode cX5_addCoupon 112 = .ok (.iload 6, 2) := by decide +kernel
theorem dX5_addCoupon_114 : decode cX5_addCoupon 114 = .ok (.aaload, 1) := by decide +kernel
theorem dX5_addCoupon_115 : decode cX5_addCoupon 115 = .ok (.iload_n 1, 1) := by decide +kernel
theorem dX5_addCoupon_116 : decode cX5_addCoupon 116 = .ok (.iload_n 2, 1) := by decide +kernel
theorem dX5_addCoupon_117 : decode cX5_addCoupon 117 = .ok (.iload_n 3, 1) := by decide +kernel
theorem dX5_addCoupon_118 : decode cX5_addCoupon 118 = .ok (.iload 4, 2) := by decide +kernel
theorem dX5_addCoupon_120 : decode cX5_addCoupon 120 = .ok (.iload 5, 2) := by decide +kernel
theorem dX5_addCoupon_122 : decode cX5_addCoupon 122 = .ok (.invokevirtual 114, 3) := by decide +kernel
theorem dX5_addCoupon_125 : decode cX5_addCoupon 125 = .ok (.aload_n 0, 1) := by decide +kernel
theorem dX5_addCoupon_126 : decode cX5_addCoupon 126 = .ok (.dup, 1) := by decide +kernel
theorem dX5_addCoupon_127 : decode cX5_addCoupon 127 = .ok (.getfield 46, 3) := by decide +kernel
theorem dX5_addCoupon_130 : decode cX5_addCoupon 130 = .ok (.iconst 1, 1) := by decide +kernel
theorem dX5_addCoupon_131 : decode cX5_addCoupon 131 = .ok (.iadd, 1) := by decide +kernel
theorem dX5_addCoupon_132 : decode cX5_addCoupon 132 = .ok (.putfield 46, 3) := by decide +kernel
theorem dX5_addCoupon_135 : decode cX5_addCoupon 135 = .ok (.iload 6, 2) := by decide +kernel
theorem dX5_addCoupon_137 : decode cX5_addCoupon 137 = .ok (.ireturn, 1) := by decide +kernel
theorem dX5_setUses_0 : decode cX5_setUses 0 = .ok (.aload_n 0, 1) := by decide +kernel
theorem dX5_setUses_1 : decode cX5_setUses 1 = .ok (.iload_n 1, 1) := by decide +kernel
theorem dX5_setUses_2 : decode cX5_setUses 2 = .ok (.invokevirtual 118, 3) := by decide +kernel
theorem dX5_setUses_5 : decode cX5_setUses 5 = .ok (.iload_n 2, 1) := by decide +kernel
theorem dX5_setUses_6 : decode cX5_setUses 6 = .ok (.ifCond .lt 9, 3) := by decide +kernel
theorem dX5_setUses_9 : decode cX5_setUses 9 = .ok (.iload_n 2, 1) := by decide +kernel
theorem dX5_setUses_10 : decode cX5_setUses 10 = .ok (.bipush 9, 2) := by decide +kernel
theorem dX5_setUses_12 : decode cX5_setUses 12 = .ok (.if_icmp .le 13, 3) := by decide +kernel
theorem dX5_setUses_15 : decode cX5_setUses 15 = .ok (.new 65, 3) := by decide +kernel
theorem dX5_setUses_18 : decode cX5_setUses 18 = .ok (.dup, 1) := by decide +kernel
theorem dX5_setUses_19 : decode cX5_setUses 19 = .ok (.ldc 121, 2) := by decide +kernel
theorem dX5_setUses_21 : decode cX5_setUses 21 = .ok (.invokespecial 69, 3) := by decide +kernel
theorem dX5_setUses_24 : decode cX5_setUses 24 = .ok (.athrow, 1) := by decide +kernel
theorem dX5_setUses_25 : decode cX5_setUses 25 = .ok (.aload_n 0, 1) := by decide +kernel
theorem dX5_setUses_26 : decode cX5_setUses 26 = .ok (.getfield 18, 3) := by decide +kernel
theorem dX5_setUses_29 : decode cX5_setUses 29 = .ok (.iload_n 1, 1) := by decide +kernel
theorem dX5_setUses_30 : decode cX5_setUses 30 = .ok (.aaload, 1) := by decide +kernel
theorem dX5_setUses_31 : decode cX5_setUses 31 = .ok (.getfield 123, 3) := by decide +kernel
theorem dX5_setUses_34 : decode cX5_setUses 34 = .ok (.istore_n 3, 1) := by decide +kernel
theorem dX5_setUses_35 : decode cX5_setUses 35 = .ok (.aload_n 0, 1) := by decide +kernel
theorem dX5_setUses_36 : decode cX5_setUses 36 = .ok (.getfield 18, 3) := by decide +kernel
theorem dX5_setUses_39 : decode cX5_setUses 39 = .ok (.iload_n 1, 1) := by decide +kernel
theorem dX5_setUses_40 : decode cX5_setUses 40 = .ok (.aaload, 1) := by decide +kernel
theorem dX5_setUses_41 : decode cX5_setUses 41 = .ok (.iload_n 2, 1) := by decide +kernel
theorem dX5_setUses_42 : decode cX5_setUses 42 = .ok (.putfield 123, 3) := by decide +kernel
theorem dX5_setUses_45 : decode cX5_setUses 45 = .ok (.iload_n 3, 1) := by decide +kernel
theorem dX5_setUses_46 : decode cX5_setUses 46 = .ok (.ireturn, 1) := by decide +kernel
theorem dX5_matching_0 : decode cX5_matching 0 = .ok (.aload_n 0, 1) := by decide +kernel
theorem dX5_matching_1 : decode cX5_matching 1 = .ok (.iload_n 1, 1) := by decide +kernel
theorem dX5_matching_2 : decode cX5_matching 2 = .ok (.invokevirtual 118, 3) := by decide +kernel
theorem dX5_matching_5 : decode cX5_matching 5 = .ok (.aload_n 0, 1) := by decide +kernel
theorem dX5_matching_6 : decode cX5_matching 6 = .ok (.getfield 12, 3) := by decide +kernel
theorem dX5_matching_9 : decode cX5_matching 9 = .ok (.aload_n 0, 1) := by decide +kernel
theorem dX5_matching_10 : decode cX5_matching 10 = .ok (.getfield 18, 3) := by decide +kernel
theorem dX5_matching_13 : decode cX5_matching 13 = .ok (.iload_n 1, 1) := by decide +kernel
theorem dX5_matching_14 : decode cX5_matching 14 = .ok (.aaload, 1) := by decide +kernel
theorem dX5_matching_15 : decode cX5_matching 15 = .ok (.getfield 126, 3) := by decide +kernel
theorem dX5_matching_18 : decode cX5_matching 18 = .ok (.invokevirtual 92, 3) := by decide +kernel
theorem dX5_matching_21 : decode cX5_matching 21 = .ok (.ireturn, 1) := by decide +kernel
theorem dX5_fits_0 : decode cX5_fits 0 = .ok (.aload_n 0, 1) := by decide +kernel
theorem dX5_fits_1 : decode cX5_fits 1 = .ok (.iload_n 1, 1) := by decide +kernel
theorem dX5_fits_2 : decode cX5_fits 2 = .ok (.invokevirtual 118, 3) := by decide +kernel
theorem dX5_fits_5 : decode cX5_fits 5 = .ok (.aload_n 0, 1) := by decide +kernel
theorem dX5_fits_6 : decode cX5_fits 6 = .ok (.getfield 18, 3) := by decide +kernel
theorem dX5_fits_9 : decode cX5_fits 9 = .ok (.iload_n 1, 1) := by decide +kernel
theorem dX5_fits_10 : decode cX5_fits 10 = .ok (.aaload, 1) := by decide +kernel
theorem dX5_fits_11 : decode cX5_fits 11 = .ok (.aload_n 0, 1) := by decide +kernel
theorem dX5_fits_12 : decode cX5_fits 12 = .ok (.getfield 12, 3) := by decide +kernel
theorem dX5_fits_15 : decode cX5_fits 15 = .ok (.invokevirtual 128, 3) := by decide +kernel
theorem dX5_fits_18 : decode cX5_fits 18 = .ok (.ireturn, 1) := by decide +kernel
theorem dX5_missing_0 : decode cX5_missing 0 = .ok (.aload_n 0, 1) := by decide +kernel
theorem dX5_missing_1 : decode cX5_missing 1 = .ok (.iload_n 1, 1) := by decide +kernel
theorem dX5_missing_2 : decode cX5_missing 2 = .ok (.invokevirtual 118, 3) := by decide +kernel
theorem dX5_missing_5 : decode cX5_missing 5 = .ok (.aload_n 0, 1) := by decide +kernel
theorem dX5_missing_6 : decode cX5_missing 6 = .ok (.getfield 18, 3) := by decide +kernel
theorem dX5_missing_9 : decode cX5_missing 9 = .ok (.iload_n 1, 1) := by decide +kernel
theorem dX5_missing_10 : decode cX5_missing 10 = .ok (.aaload, 1) := by decide +kernel
theorem dX5_missing_11 : decode cX5_missing 11 = .ok (.getfield 132, 3) := by decide +kernel
theorem dX5_missing_14 : decode cX5_missing 14 = .ok (.aload_n 0, 1) := by decide +kernel
theorem dX5_missing_15 : decode cX5_missing 15 = .ok (.getfield 12, 3) := by decide +kernel
theorem dX5_missing_18 : decode cX5_missing 18 = .ok (.aload_n 0, 1) := by decide +kernel
theorem dX5_missing_19 : decode cX5_missing 19 = .ok (.getfield 18, 3) := by decide +kernel
theorem dX5_missing_22 : decode cX5_missing 22 = .ok (.iload_n 1, 1) := by decide +kernel
theorem dX5_missing_23 : decode cX5_missing 23 = .ok (.aaload, 1) := by decide +kernel
theorem dX5_missing_24 : decode cX5_missing 24 = .ok (.getfield 126, 3) := by decide +kernel
theorem dX5_missing_27 : decode cX5_missing 27 = .ok (.invokevirtual 92, 3) := by decide +kernel
theorem dX5_missing_30 : decode cX5_missing 30 = .ok (.isub, 1) := by decide +kernel
theorem dX5_missing_31 : decode cX5_missing 31 = .ok (.istore_n 2, 1) := by decide +kernel
theorem dX5_missing_32 : decode cX5_missing 32 = .ok (.iload_n 2, 1) := by decide +kernel
theorem dX5_missing_33 : decode cX5_missing 33 = .ok (.iconst 0, 1) := by decide +kernel
theorem dX5_missing_34 : decode cX5_missing 34 = .ok (.invokestatic 135, 3) := by decide +kernel
theorem dX5_missing_37 : decode cX5_missing 37 = .ok (.ireturn, 1) := by decide +kernel
theorem dX5_isAllowed_0 : decode cX5_isAllowed 0 = .ok (.aload_n 0, 1) := by decide +kernel
theorem dX5_isAllowed_1 : decode cX5_isAllowed 1 = .ok (.iload_n 1, 1) := by decide +kernel
theorem dX5_isAllowed_2 : decode cX5_isAllowed 2 = .ok (.invokevirtual 141, 3) := by decide +kernel
theorem dX5_isAllowed_5 : decode cX5_isAllowed 5 = .ok (.aload_n 0, 1) := by decide +kernel
theorem dX5_isAllowed_6 : decode cX5_isAllowed 6 = .ok (.iload_n 1, 1) := by decide +kernel
theorem dX5_isAllowed_7 : decode cX5_isAllowed 7 = .ok (.invokevirtual 144, 3) := by decide +kernel
theorem dX5_isAllowed_10 : decode cX5_isAllowed 10 = .ok (.ireturn, 1) := by decide +kernel
theorem dX5_goods_0 : decode cX5_goods 0 = .ok (.aload_n 0, 1) := by decide +kernel
theorem dX5_goods_1 : decode cX5_goods 1 = .ok (.iload_n 1, 1) := by decide +kernel
theorem dX5_goods_2 : decode cX5_goods 2 = .ok (.invokevirtual 141, 3) := by decide +kernel
theorem dX5_goods_5 : decode cX5_goods 5 = .ok (.aload_n 0, 1) := by decide +kernel
theorem dX5_goods_6 : decode cX5_goods 6 = .ok (.iload_n 1, 1) := by decide +kernel
theorem dX5_goods_7 : decode cX5_goods 7 = .ok (.invokevirtual 148, 3) := by decide +kernel
theorem dX5_goods_10 : decode cX5_goods 10 = .ok (.aload_n 0, 1) := by decide +kernel
theorem dX5_goods_11 : decode cX5_goods 11 = .ok (.aload_n 0, 1) := by decide +kernel
theorem dX5_goods_12 : decode cX5_goods 12 = .ok (.getfield 12, 3) := by decide +kernel
theorem dX5_goods_15 : decode cX5_goods 15 = .ok (.iload_n 1, 1) := by decide +kernel
theorem dX5_goods_16 : decode cX5_goods 16 = .ok (.invokevirtual 151, 3) := by decide +kernel
theorem dX5_goods_19 : decode cX5_goods 19 = .ok (.ireturn, 1) := by decide +kernel
theorem dX5_total_0 : decode cX5_total 0 = .ok (.aload_n 0, 1) := by decide +kernel
theorem dX5_total_1 : decode cX5_total 1 = .ok (.iload_n 1, 1) := by decide +kernel
theorem dX5_total_2 : decode cX5_total 2 = .ok (.invokevirtual 141, 3) := by decide +kernel
theorem dX5_total_5 : decode cX5_total 5 = .ok (.aload_n 0, 1) := by decide +kernel
theorem dX5_total_6 : decode cX5_total 6 = .ok (.iload_n 1, 1) := by decide +kernel
theorem dX5_total_7 : decode cX5_total 7 = .ok (.invokevirtual 148, 3) := by decide +kernel
theorem dX5_total_10 : decode cX5_total 10 = .ok (.aload_n 0, 1) := by decide +kernel
theorem dX5_total_11 : decode cX5_total 11 = .ok (.aload_n 0, 1) := by decide +kernel
theorem dX5_total_12 : decode cX5_total 12 = .ok (.getfield 12, 3) := by decide +kernel
theorem dX5_total_15 : decode cX5_total 15 = .ok (.iload_n 1, 1) := by decide +kernel
theorem dX5_total_16 : decode cX5_total 16 = .ok (.invokevirtual 151, 3) := by decide +kernel
theorem dX5_total_19 : decode cX5_total 19 = .ok (.istore_n 2, 1) := by decide +kernel
theorem dX5_total_20 : decode cX5_total 20 = .ok (.iload_n 2, 1) := by decide +kernel
theorem dX5_total_21 : decode cX5_total 21 = .ok (.aload_n 0, 1) := by decide +kernel
theorem dX5_total_22 : decode cX5_total 22 = .ok (.iload_n 1, 1) := by decide +kernel
theorem dX5_total_23 : decode cX5_total 23 = .ok (.iload_n 2, 1) := by decide +kernel
theorem dX5_total_24 : decode cX5_total 24 = .ok (.invokevirtual 155, 3) := by decide +kernel
theorem dX5_total_27 : decode cX5_total 27 = .ok (.iadd, 1) := by decide +kernel
theorem dX5_total_28 : decode cX5_total 28 = .ok (.ireturn, 1) := by decide +kernel
theorem dX5_rest_0 : decode cX5_rest 0 = .ok (.aload_n 0, 1) := by decide +kernel
theorem dX5_rest_1 : decode cX5_rest 1 = .ok (.iload_n 1, 1) := by decide +kernel
theorem dX5_rest_2 : decode cX5_rest 2 = .ok (.invokevirtual 141, 3) := by decide +kernel
theorem dX5_rest_5 : decode cX5_rest 5 = .ok (.aload_n 0, 1) := by decide +kernel
theorem dX5_rest_6 : decode cX5_rest 6 = .ok (.iload_n 2, 1) := by decide +kernel
theorem dX5_rest_7 : decode cX5_rest 7 = .ok (.invokevirtual 84, 3) := by decide +kernel
theorem dX5_rest_10 : decode cX5_rest 10 = .ok (.aload_n 0, 1) := by decide +kernel
theorem dX5_rest_11 : decode cX5_rest 11 = .ok (.iload_n 1, 1) := by decide +kernel
theorem dX5_rest_12 : decode cX5_rest 12 = .ok (.invokevirtual 148, 3) := by decide +kernel
theorem dX5_rest_15 : decode cX5_rest 15 = .ok (.aload_n 0, 1) := by decide +kernel
theorem dX5_rest_16 : decode cX5_rest 16 = .ok (.aload_n 0, 1) := by decide +kernel
theorem dX5_rest_17 : decode cX5_rest 17 = .ok (.getfield 12, 3) := by decide +kernel
theorem dX5_rest_20 : decode cX5_rest 20 = .ok (.iload_n 1, 1) := by decide +kernel
theorem dX5_rest_21 : decode cX5_rest 21 = .ok (.invokevirtual 158, 3) := by decide +kernel
theorem dX5_rest_24 : decode cX5_rest 24 = .ok (.aload_n 0, 1) := by decide +kernel
theorem dX5_rest_25 : decode cX5_rest 25 = .ok (.getfield 31, 3) := by decide +kernel
theorem dX5_rest_28 : decode cX5_rest 28 = .ok (.iload_n 2, 1) := by decide +kernel
theorem dX5_rest_29 : decode cX5_rest 29 = .ok (.invokevirtual 162, 3) := by decide +kernel
theorem dX5_rest_32 : decode cX5_rest 32 = .ok (.ireturn, 1) := by decide +kernel
theorem dX5_best_0 : decode cX5_best 0 = .ok (.aload_n 0, 1) := by decide +kernel
theorem dX5_best_1 : decode cX5_best 1 = .ok (.iconst 0, 1) := by decide +kernel
theorem dX5_best_2 : decode cX5_best 2 = .ok (.invokevirtual 165, 3) := by decide +kernel
theorem dX5_best_5 : decode cX5_best 5 = .ok (.aload_n 0, 1) := by decide +kernel
theorem dX5_best_6 : decode cX5_best 6 = .ok (.getfield 38, 3) := by decide +kernel
theorem dX5_best_9 : decode cX5_best 9 = .ok (.getfield 168, 3) := by decide +kernel
theorem dX5_best_12 : decode cX5_best 12 = .ok (.ireturn, 1) := by decide +kernel
theorem dX5_worth_0 : decode cX5_worth 0 = .ok (.aload_n 0, 1) := by decide +kernel
theorem dX5_worth_1 : decode cX5_worth 1 = .ok (.iload_n 1, 1) := by decide +kernel
theorem dX5_worth_2 : decode cX5_worth 2 = .ok (.invokevirtual 118, 3) := by decide +kernel
theorem dX5_worth_5 : decode cX5_worth 5 = .ok (.aload_n 0, 1) := by decide +kernel
theorem dX5_worth_6 : decode cX5_worth 6 = .ok (.iconst 1, 1) := by decide +kernel
theorem dX5_worth_7 : decode cX5_worth 7 = .ok (.iload_n 1, 1) := by decide +kernel
theorem dX5_worth_8 : decode cX5_worth 8 = .ok (.ishl, 1) := by decide +kernel
theorem dX5_worth_9 : decode cX5_worth 9 = .ok (.invokevirtual 165, 3) := by decide +kernel
theorem dX5_worth_12 : decode cX5_worth 12 = .ok (.aload_n 0, 1) := by decide +kernel
theorem dX5_worth_13 : decode cX5_worth 13 = .ok (.getfield 38, 3) := by decide +kernel
theorem dX5_worth_16 : decode cX5_worth 16 = .ok (.getfield 171, 3) := by decide +kernel
theorem dX5_worth_19 : decode cX5_worth 19 = .ok (.aload_n 0, 1) := by decide +kernel
theorem dX5_worth_20 : decode cX5_worth 20 = .ok (.getfield 38, 3) := by decide +kernel
theorem dX5_worth_23 : decode cX5_worth 23 = .ok (.getfield 174, 3) := by decide +kernel
theorem dX5_worth_26 : decode cX5_worth 26 = .ok (.isub, 1) := by decide +kernel
theorem dX5_worth_27 : decode cX5_worth 27 = .ok (.ireturn, 1) := by decide +kernel
theorem dX5_buy_0 : decode cX5_buy 0 = .ok (.aload_n 0, 1) := by decide +kernel
theorem dX5_buy_1 : decode cX5_buy 1 = .ok (.iload_n 1, 1) := by decide +kernel
theorem dX5_buy_2 : decode cX5_buy 2 = .ok (.invokevirtual 141, 3) := by decide +kernel
theorem dX5_buy_5 : decode cX5_buy 5 = .ok (.aload_n 0, 1) := by decide +kernel
theorem dX5_buy_6 : decode cX5_buy 6 = .ok (.iload_n 1, 1) := by decide +kernel
theorem dX5_buy_7 : decode cX5_buy 7 = .ok (.invokevirtual 148, 3) := by decide +kernel
theorem dX5_buy_10 : decode cX5_buy 10 = .ok (.aload_n 0, 1) := by decide +kernel
theorem dX5_buy_11 : decode cX5_buy 11 = .ok (.getfield 12, 3) := by decide +kernel
theorem dX5_buy_14 : decode cX5_buy 14 = .ok (.invokevirtual 177, 3) := by decide +kernel
theorem dX5_buy_17 : decode cX5_buy 17 = .ok (.ifCond .ne 13, 3) := by decide +kernel
theorem dX5_buy_20 : decode cX5_buy 20 = .ok (.new 72, 3) := by decide +kernel
theorem dX5_buy_23 : decode cX5_buy 23 = .ok (.dup, 1) := by decide +kernel
theorem dX5_buy_24 : decode cX5_buy 24 = .ok (.ldc 181, 2) := by decide +kernel
theorem dX5_buy_26 : decode cX5_buy 26 = .ok (.invokespecial 76, 3) := by decide +kernel
theorem dX5_buy_29 : decode cX5_buy 29 = .ok (.athrow, 1) := by decide +kernel
theorem dX5_buy_30 : decode cX5_buy 30 = .ok (.aload_n 0, 1) := by decide +kernel
theorem dX5_buy_31 : decode cX5_buy 31 = .ok (.getfield 49, 3) := by decide +kernel
theorem dX5_buy_34 : decode cX5_buy 34 = .ok (.bipush 12, 2) := by decide +kernel
theorem dX5_buy_36 : decode cX5_buy 36 = .ok (.if_icmp .lt 13, 3) := by decide +kernel
theorem dX5_buy_39 : decode cX5_buy 39 = .ok (.new 72, 3) := by decide +kernel
theorem dX5_buy_42 : decode cX5_buy 42 = .ok (.dup, 1) := by decide +kernel
theorem dX5_buy_43 : decode cX5_buy 43 = .ok (.ldc 183, 2) := by decide +kernel
theorem dX5_buy_45 : decode cX5_buy 45 = .ok (.invokespecial 76, 3) := by decide +kernel
theorem dX5_buy_48 : decode cX5_buy 48 = .ok (.athrow, 1) := by decide +kernel
theorem dX5_buy_49 : decode cX5_buy 49 = .ok (.aload_n 0, 1) := by decide +kernel
theorem dX5_buy_50 : decode cX5_buy 50 = .ok (.getfield 49, 3) := by decide +kernel
theorem dX5_buy_53 : decode cX5_buy 53 = .ok (.istore_n 2, 1) := by decide +kernel
theorem dX5_buy_54 : decode cX5_buy 54 = .ok (.aload_n 0, 1) := by decide +kernel
theorem dX5_buy_55 : decode cX5_buy 55 = .ok (.aload_n 0, 1) := by decide +kernel
theorem dX5_buy_56 : decode cX5_buy 56 = .ok (.getfield 12, 3) := by decide +kernel
theorem dX5_buy_59 : decode cX5_buy 59 = .ok (.iload_n 1, 1) := by decide +kernel
theorem dX5_buy_60 : decode cX5_buy 60 = .ok (.invokevirtual 151, 3) := by decide +kernel
theorem dX5_buy_63 : decode cX5_buy 63 = .ok (.istore_n 3, 1) := by decide +kernel
theorem dX5_buy_64 : decode cX5_buy 64 = .ok (.aload_n 0, 1) := by decide +kernel
theorem dX5_buy_65 : decode cX5_buy 65 = .ok (.getfield 24, 3) := by decide +kernel
theorem dX5_buy_68 : decode cX5_buy 68 = .ok (.iload_n 2, 1) := by decide +kernel
theorem dX5_buy_69 : decode cX5_buy 69 = .ok (.aaload, 1) := by decide +kernel
theorem dX5_buy_70 : decode cX5_buy 70 = .ok (.aload_n 0, 1) := by decide +kernel
theorem dX5_buy_71 : decode cX5_buy 71 = .ok (.getfield 12, 3) := by decide +kernel
theorem dX5_buy_74 : decode cX5_buy 74 = .ok (.iload_n 1, 1) := by decide +kernel
theorem dX5_buy_75 : decode cX5_buy 75 = .ok (.aload_n 0, 1) := by decide +kernel
theorem dX5_buy_76 : decode cX5_buy 76 = .ok (.iload_n 1, 1) := by decide +kernel
theorem dX5_buy_77 : decode cX5_buy 77 = .ok (.iload_n 3, 1) := by decide +kernel
theorem dX5_buy_78 : decode cX5_buy 78 = .ok (.invokevirtual 155, 3) := by decide +kernel
theorem dX5_buy_81 : decode cX5_buy 81 = .ok (.iload_n 3, 1) := by decide +kernel
theorem dX5_buy_82 : decode cX5_buy 82 = .ok (.invokevirtual 185, 3) := by decide +kernel
theorem dX5_buy_85 : decode cX5_buy 85 = .ok (.aload_n 0, 1) := by decide +kernel
theorem dX5_buy_86 : decode cX5_buy 86 = .ok (.dup, 1) := by decide +kernel
theorem dX5_buy_87 : decode cX5_buy 87 = .ok (.getfield 49, 3) := by decide +kernel
theorem dX5_buy_90 : decode cX5_buy 90 = .ok (.iconst 1, 1) := by decide +kernel
theorem dX5_buy_91 : decode cX5_buy 91 = .ok (.iadd, 1) := by decide +kernel
theorem dX5_buy_92 : decode cX5_buy 92 = .ok (.putfield 49, 3) := by decide +kernel
theorem dX5_buy_95 : decode cX5_buy 95 = .ok (.aload_n 0, 1) := by decide +kernel
theorem dX5_buy_96 : decode cX5_buy 96 = .ok (.iload_n 1, 1) := by decide +kernel
theorem dX5_buy_97 : decode cX5_buy 97 = .ok (.invokevirtual 188, 3) := by decide +kernel
theorem dX5_buy_100 : decode cX5_buy 100 = .ok (.aload_n 0, 1) := by decide +kernel
theorem dX5_buy_101 : decode cX5_buy 101 = .ok (.getfield 12, 3) := by decide +kernel
theorem dX5_buy_104 : decode cX5_buy 104 = .ok (.invokevirtual 191, 3) := by decide +kernel
theorem dX5_buy_107 : decode cX5_buy 107 = .ok (.iload_n 2, 1) := by decide +kernel
theorem dX5_buy_108 : decode cX5_buy 108 = .ok (.ireturn, 1) := by decide +kernel
theorem dX5_giveBack_0 : decode cX5_giveBack 0 = .ok (.aload_n 0, 1) := by decide +kernel
theorem dX5_giveBack_1 : decode cX5_giveBack 1 = .ok (.iload_n 1, 1) := by decide +kernel
theorem dX5_giveBack_2 : decode cX5_giveBack 2 = .ok (.invokevirtual 194, 3) := by decide +kernel
theorem dX5_giveBack_5 : decode cX5_giveBack 5 = .ok (.aload_n 0, 1) := by decide +kernel
theorem dX5_giveBack_6 : decode cX5_giveBack 6 = .ok (.iload_n 2, 1) := by decide +kernel
theorem dX5_giveBack_7 : decode cX5_giveBack 7 = .ok (.invokevirtual 84, 3) := by decide +kernel
theorem dX5_giveBack_10 : decode cX5_giveBack 10 = .ok (.aload_n 0, 1) := by decide +kernel
theorem dX5_giveBack_11 : decode cX5_giveBack 11 = .ok (.getfield 24, 3) := by decide +kernel
theorem dX5_giveBack_14 : decode cX5_giveBack 14 = .ok (.iload_n 1, 1) := by decide +kernel
theorem dX5_giveBack_15 : decode cX5_giveBack 15 = .ok (.aaload, 1) := by decide +kernel
theorem dX5_giveBack_16 : decode cX5_giveBack 16 = .ok (.astore 4, 2) := by decide +kernel
theorem dX5_giveBack_18 : decode cX5_giveBack 18 = .ok (.iload_n 3, 1) := by decide +kernel
theorem dX5_giveBack_19 : decode cX5_giveBack 19 = .ok (.iconst 1, 1) := by decide +kernel
theorem dX5_giveBack_20 : decode cX5_giveBack 20 = .ok (.if_icmp .lt 17, 3) := by decide +kernel
theorem dX5_giveBack_23 : decode cX5_giveBack 23 = .ok (.iload_n 3, 1) := by decide +kernel
theorem dX5_giveBack_24 : decode cX5_giveBack 24 = .ok (.aload 4, 2) := by decide +kernel
theorem dX5_giveBack_26 : decode cX5_giveBack 26 = .ok (.getfield 197, 3) := by decide +kernel
theorem dX5_giveBack_29 : decode cX5_giveBack 29 = .ok (.getfield 89, 3) := by decide +kernel
theorem dX5_giveBack_32 : decode cX5_giveBack 32 = .ok (.iload_n 2, 1) := by decide +kernel
theorem dX5_giveBack_33 : decode cX5_giveBack 33 = .ok (.iaload, 1) := by decide +kernel
theorem dX5_giveBack_34 : decode cX5_giveBack 34 = .ok (.if_icmp .le 13, 3) := by decide +kernel
theorem dX5_giveBack_37 : decode cX5_giveBack 37 = .ok (.new 65, 3) := by decide +kernel
theorem dX5_giveBack_40 : decode cX5_giveBack 40 = .ok (.dup, 1) := by decide +kernel
theorem dX5_giveBack_41 : decode cX5_giveBack 41 = .ok (.ldc 200, 2) := by decide +kernel
theorem dX5_giveBack_43 : decode cX5_giveBack 43 = .ok (.invokespecial 69, 3) := by decide +kernel
theorem dX5_giveBack_46 : decode cX5_giveBack 46 = .ok (.athrow, 1) := by decide +kernel
theorem dX5_giveBack_47 : decode cX5_giveBack 47 = .ok (.aload 4, 2) := by decide +kernel
theorem dX5_giveBack_49 : decode cX5_giveBack 49 = .ok (.getfield 197, 3) := by decide +kernel
theorem dX5_giveBack_52 : decode cX5_giveBack 52 = .ok (.getfield 89, 3) := by decide +kernel
theorem dX5_giveBack_55 : decode cX5_giveBack 55 = .ok (.iload_n 2, 1) := by decide +kernel
theorem dX5_giveBack_56 : decode cX5_giveBack 56 = .ok (.dup2, 1) := by decide +kernel
theorem dX5_giveBack_57 : decode cX5_giveBack 57 = .ok (.iaload, 1) := by decide +kernel
theorem dX5_giveBack_58 : decode cX5_giveBack 58 = .ok (.iload_n 3, 1) := by decide +kernel
theorem dX5_giveBack_59 : decode cX5_giveBack 59 = .ok (.isub, 1) := by decide +kernel
theorem dX5_giveBack_60 : decode cX5_giveBack 60 = .ok (.iastore, 1) := by decide +kernel
theorem dX5_giveBack_61 : decode cX5_giveBack 61 = .ok (.aload 4, 2) := by decide +kernel
theorem dX5_giveBack_63 : decode cX5_giveBack 63 = .ok (.aload_n 0, 1) := by decide +kernel
theorem dX5_giveBack_64 : decode cX5_giveBack 64 = .ok (.aload 4, 2) := by decide +kernel
theorem dX5_giveBack_66 : decode cX5_giveBack 66 = .ok (.invokevirtual 202, 3) := by decide +kernel
theorem dX5_giveBack_69 : decode cX5_giveBack 69 = .ok (.putfield 206, 3) := by decide +kernel
theorem dX5_giveBack_72 : decode cX5_giveBack 72 = .ok (.aload_n 0, 1) := by decide +kernel
theorem dX5_giveBack_73 : decode cX5_giveBack 73 = .ok (.aload 4, 2) := by decide +kernel
theorem dX5_giveBack_75 : decode cX5_giveBack 75 = .ok (.getfield 197, 3) := by decide +kernel
theorem dX5_giveBack_78 : decode cX5_giveBack 78 = .ok (.aload 4, 2) := by decide +kernel
theorem dX5_giveBack_80 : decode cX5_giveBack 80 = .ok (.getfield 206, 3) := by decide +kernel
theorem dX5_giveBack_83 : decode cX5_giveBack 83 = .ok (.invokevirtual 151, 3) := by decide +kernel
theorem dX5_giveBack_86 : decode cX5_giveBack 86 = .ok (.istore 5, 2) := by decide +kernel
theorem dX5_giveBack_88 : decode cX5_giveBack 88 = .ok (.iload 5, 2) := by decide +kernel
theorem dX5_giveBack_90 : decode cX5_giveBack 90 = .ok (.aload 4, 2) := by decide +kernel
theorem dX5_giveBack_92 : decode cX5_giveBack 92 = .ok (.getfield 209, 3) := by decide +kernel
theorem dX5_giveBack_95 : decode cX5_giveBack 95 = .ok (.if_icmp .lt 5, 3) := by decide +kernel
theorem dX5_giveBack_98 : decode cX5_giveBack 98 = .ok (.iconst 0, 1) := by decide +kernel
theorem dX5_giveBack_99 : decode cX5_giveBack 99 = .ok (.ireturn, 1) := by decide +kernel
theorem dX5_giveBack_100 : decode cX5_giveBack 100 = .ok (.aload 4, 2) := by decide +kernel
theorem dX5_giveBack_102 : decode cX5_giveBack 102 = .ok (.getfield 209, 3) := by decide +kernel
theorem dX5_giveBack_105 : decode cX5_giveBack 105 = .ok (.iload 5, 2) := by decide +kernel
theorem dX5_giveBack_107 : decode cX5_giveBack 107 = .ok (.isub, 1) := by decide +kernel
theorem dX5_giveBack_108 : decode cX5_giveBack 108 = .ok (.istore 6, 2) := by decide +kernel
theorem dX5_giveBack_110 : decode cX5_giveBack 110 = .ok (.aload 4, 2) := by decide +kernel
theorem dX5_giveBack_112 : decode cX5_giveBack 112 = .ok (.iload 5, 2) := by decide +kernel
theorem dX5_giveBack_114 : decode cX5_giveBack 114 = .ok (.putfield 209, 3) := by decide +kernel
theorem dX5_giveBack_117 : decode cX5_giveBack 117 = .ok (.iload 6, 2) := by decide +kernel
theorem dX5_giveBack_119 : decode cX5_giveBack 119 = .ok (.ireturn, 1) := by decide +kernel
theorem dX5_orderCount_0 : decode cX5_orderCount 0 = .ok (.aload_n 0, 1) := by decide +kernel
theorem dX5_orderCount_1 : decode cX5_orderCount 1 = .ok (.getfield 49, 3) := by decide +kernel
theorem dX5_orderCount_4 : decode cX5_orderCount 4 = .ok (.ireturn, 1) := by decide +kernel
theorem dX5_order_0 : decode cX5_order 0 = .ok (.aload_n 0, 1) := by decide +kernel
theorem dX5_order_1 : decode cX5_order 1 = .ok (.iload_n 1, 1) := by decide +kernel
theorem dX5_order_2 : decode cX5_order 2 = .ok (.invokevirtual 194, 3) := by decide +kernel
theorem dX5_order_5 : decode cX5_order 5 = .ok (.iload_n 2, 1) := by decide +kernel
theorem dX5_order_6 : decode cX5_order 6 = .ok (.ifCond .lt 8, 3) := by decide +kernel
theorem dX5_order_9 : decode cX5_order 9 = .ok (.iload_n 2, 1) := by decide +kernel
theorem dX5_order_10 : decode cX5_order 10 = .ok (.iconst 5, 1) := by decide +kernel
theorem dX5_order_11 : decode cX5_order 11 = .ok (.if_icmp .lt 13, 3) := by decide +kernel
theorem dX5_order_14 : decode cX5_order 14 = .ok (.new 212, 3) := by decide +kernel
theorem dX5_order_17 : decode cX5_order 17 = .ok (.dup, 1) := by decide +kernel
theorem dX5_order_18 : decode cX5_order 18 = .ok (.ldc 214, 2) := by decide +kernel
theorem dX5_order_20 : decode cX5_order 20 = .ok (.invokespecial 216, 3) := by decide +kernel
theorem dX5_order_23 : decode cX5_order 23 = .ok (.athrow, 1) := by decide +kernel
theorem dX5_order_24 : decode cX5_order 24 = .ok (.aload_n 0, 1) := by decide +kernel
theorem dX5_order_25 : decode cX5_order 25 = .ok (.getfield 24, 3) := by decide +kernel
theorem dX5_order_28 : decode cX5_order 28 = .ok (.iload_n 1, 1) := by decide +kernel
theorem dX5_order_29 : decode cX5_order 29 = .ok (.aaload, 1) := by decide +kernel
theorem dX5_order_30 : decode cX5_order 30 = .ok (.iload_n 2, 1) := by decide +kernel
theorem dX5_order_31 : decode cX5_order 31 = .ok (.invokevirtual 217, 3) := by decide +kernel
theorem dX5_order_34 : decode cX5_order 34 = .ok (.ireturn, 1) := by decide +kernel
theorem dX5_pieces_0 : decode cX5_pieces 0 = .ok (.aload_n 0, 1) := by decide +kernel
theorem dX5_pieces_1 : decode cX5_pieces 1 = .ok (.iload_n 1, 1) := by decide +kernel
theorem dX5_pieces_2 : decode cX5_pieces 2 = .ok (.invokevirtual 194, 3) := by decide +kernel
theorem dX5_pieces_5 : decode cX5_pieces 5 = .ok (.aload_n 0, 1) := by decide +kernel
theorem dX5_pieces_6 : decode cX5_pieces 6 = .ok (.iload_n 2, 1) := by decide +kernel
theorem dX5_pieces_7 : decode cX5_pieces 7 = .ok (.invokevirtual 84, 3) := by decide +kernel
theorem dX5_pieces_10 : decode cX5_pieces 10 = .ok (.aload_n 0, 1) := by decide +kernel
theorem dX5_pieces_11 : decode cX5_pieces 11 = .ok (.getfield 24, 3) := by decide +kernel
theorem dX5_pieces_14 : decode cX5_pieces 14 = .ok (.iload_n 1, 1) := by decide +kernel
theorem dX5_pieces_15 : decode cX5_pieces 15 = .ok (.aaload, 1) := by decide +kernel
theorem dX5_pieces_16 : decode cX5_pieces 16 = .ok (.getfield 197, 3) := by decide +kernel
theorem dX5_pieces_19 : decode cX5_pieces 19 = .ok (.getfield 89, 3) := by decide +kernel
theorem dX5_pieces_22 : decode cX5_pieces 22 = .ok (.iload_n 2, 1) := by decide +kernel
theorem dX5_pieces_23 : decode cX5_pieces 23 = .ok (.iaload, 1) := by decide +kernel
theorem dX5_pieces_24 : decode cX5_pieces 24 = .ok (.ireturn, 1) := by decide +kernel
theorem dX5_level_0 : decode cX5_level 0 = .ok (.iconst 0, 1) := by decide +kernel
theorem dX5_level_1 : decode cX5_level 1 = .ok (.istore_n 1, 1) := by decide +kernel
theorem dX5_level_2 : decode cX5_level 2 = .ok (.iconst 0, 1) := by decide +kernel
theorem dX5_level_3 : decode cX5_level 3 = .ok (.istore_n 2, 1) := by decide +kernel
theorem dX5_level_4 : decode cX5_level 4 = .ok (.iconst 0, 1) := by decide +kernel
theorem dX5_level_5 : decode cX5_level 5 = .ok (.istore_n 3, 1) := by decide +kernel
theorem dX5_level_6 : decode cX5_level 6 = .ok (.iload_n 3, 1) := by decide +kernel
theorem dX5_level_7 : decode cX5_level 7 = .ok (.aload_n 0, 1) := by decide +kernel
theorem dX5_level_8 : decode cX5_level 8 = .ok (.getfield 49, 3) := by decide +kernel
theorem dX5_level_11 : decode cX5_level 11 = .ok (.if_icmp .ge 39, 3) := by decide +kernel
theorem dX5_level_14 : decode cX5_level 14 = .ok (.iload_n 1, 1) := by decide +kernel
theorem dX5_level_15 : decode cX5_level 15 = .ok (.aload_n 0, 1) := by decide +kernel
theorem dX5_level_16 : decode cX5_level 16 = .ok (.getfield 24, 3) := by decide +kernel
theorem dX5_level_19 : decode cX5_level 19 = .ok (.iload_n 3, 1) := by decide +kernel
theorem dX5_level_20 : decode cX5_level 20 = .ok (.aaload, 1) := by decide +kernel
theorem dX5_level_21 : decode cX5_level 21 = .ok (.getfield 209, 3) := by decide +kernel
theorem dX5_level_24 : decode cX5_level 24 = .ok (.iadd, 1) := by decide +kernel
theorem dX5_level_25 : decode cX5_level 25 = .ok (.istore_n 1, 1) := by decide +kernel
theorem dX5_level_26 : decode cX5_level 26 = .ok (.iload_n 2, 1) := by decide +kernel
theorem dX5_level_27 : decode cX5_level 27 = .ok (.aload_n 0, 1) := by decide +kernel
theorem dX5_level_28 : decode cX5_level 28 = .ok (.getfield 24, 3) := by decide +kernel
theorem dX5_level_31 : decode cX5_level 31 = .ok (.iload_n 3, 1) := by decide +kernel
theorem dX5_level_32 : decode cX5_level 32 = .ok (.aaload, 1) := by decide +kernel
theorem dX5_level_33 : decode cX5_level 33 = .ok (.getfield 197, 3) := by decide +kernel
theorem dX5_level_36 : decode cX5_level 36 = .ok (.sipush 255, 3) := by decide +kernel
theorem dX5_level_39 : decode cX5_level 39 = .ok (.invokevirtual 92, 3) := by decide +kernel
theorem dX5_level_42 : decode cX5_level 42 = .ok (.iadd, 1) := by decide +kernel
theorem dX5_level_43 : decode cX5_level 43 = .ok (.istore_n 2, 1) := by decide +kernel
theorem dX5_level_44 : decode cX5_level 44 = .ok (.iinc 3 1, 3) := by decide +kernel
theorem dX5_level_47 : decode cX5_level 47 = .ok (.goto (-41), 3) := by decide +kernel
theorem dX5_level_50 : decode cX5_level 50 = .ok (.iload_n 2, 1) := by decide +kernel
theorem dX5_level_51 : decode cX5_level 51 = .ok (.ifCond .ne 5, 3) := by decide +kernel
theorem dX5_level_54 : decode cX5_level 54 = .ok (.dconst 1, 1) := by decide +kernel
theorem dX5_level_55 : decode cX5_level 55 = .ok (.dreturn, 1) := by decide +kernel
theorem dX5_level_56 : decode cX5_level 56 = .ok (.iload_n 1, 1) := by decide +kernel
theorem dX5_level_57 : decode cX5_level 57 = .ok (.i2d, 1) := by decide +kernel
theorem dX5_level_58 : decode cX5_level 58 = .ok (.iload_n 2, 1) := by decide +kernel
theorem dX5_level_59 : decode cX5_level 59 = .ok (.i2d, 1) := by decide +kernel
theorem dX5_level_60 : decode cX5_level 60 = .ok (.ddiv, 1) := by decide +kernel
theorem dX5_level_61 : decode cX5_level 61 = .ok (.dreturn, 1) := by decide +kernel
theorem dX5_digest_0 : decode cX5_digest 0 = .ok (.aload_n 0, 1) := by decide +kernel
theorem dX5_digest_1 : decode cX5_digest 1 = .ok (.ldc2_w 220, 3) := by decide +kernel
theorem dX5_digest_4 : decode cX5_digest 4 = .ok (.invokevirtual 222, 3) := by decide +kernel
theorem dX5_digest_7 : decode cX5_digest 7 = .ok (.lstore_n 1, 1) := by decide +kernel
theorem dX5_digest_8 : decode cX5_digest 8 = .ok (.lload_n 1, 1) := by decide +kernel
theorem dX5_digest_9 : decode cX5_digest 9 = .ok (.aload_n 0, 1) := by decide +kernel
theorem dX5_digest_10 : decode cX5_digest 10 = .ok (.getfield 52, 3) := by decide +kernel
theorem dX5_digest_13 : decode cX5_digest 13 = .ok (.invokestatic 226, 3) := by decide +kernel
theorem dX5_digest_16 : decode cX5_digest 16 = .ok (.aload_n 0, 1) := by decide +kernel
theorem dX5_digest_17 : decode cX5_digest 17 = .ok (.getfield 56, 3) := by decide +kernel
theorem dX5_digest_20 : decode cX5_digest 20 = .ok (.invokestatic 226, 3) := by decide +kernel
theorem dX5_digest_23 : decode cX5_digest 23 = .ok (.lstore_n 1, 1) := by decide +kernel
theorem dX5_digest_24 : decode cX5_digest 24 = .ok (.aload_n 0, 1) := by decide +kernel
theorem dX5_digest_25 : decode cX5_digest 25 = .ok (.lload_n 1, 1) := by decide +kernel
theorem dX5_digest_26 : decode cX5_digest 26 = .ok (.invokevirtual 230, 3) := by decide +kernel
theorem dX5_digest_29 : decode cX5_digest 29 = .ok (.lstore_n 1, 1) := by decide +kernel
theorem dX5_digest_30 : decode cX5_digest 30 = .ok (.aload_n 0, 1) := by decide +kernel
theorem dX5_digest_31 : decode cX5_digest 31 = .ok (.lload_n 1, 1) := by decide +kernel
theorem dX5_digest_32 : decode cX5_digest 32 = .ok (.invokevirtual 233, 3) := by decide +kernel
theorem dX5_digest_35 : decode cX5_digest 35 = .ok (.lreturn, 1) := by decide +kernel
theorem dX5_needArticle_0 : decode cX5_needArticle 0 = .ok (.iload_n 1, 1) := by decide +kernel
theorem dX5_needArticle_1 : decode cX5_needArticle 1 = .ok (.ifCond .lt 11, 3) := by decide +kernel
theorem dX5_needArticle_4 : decode cX5_needArticle 4 = .ok (.iload_n 1, 1) := by decide +kernel
theorem dX5_needArticle_5 : decode cX5_needArticle 5 = .ok (.aload_n 0, 1) := by decide +kernel
theorem dX5_needArticle_6 : decode cX5_needArticle 6 = .ok (.getfield 42, 3) := by decide +kernel
theorem dX5_needArticle_9 : decode cX5_needArticle 9 = .ok (.if_icmp .lt 13, 3) := by decide +kernel
theorem dX5_needArticle_12 : decode cX5_needArticle 12 = .ok (.new 212, 3) := by decide +kernel
theorem dX5_needArticle_15 : decode cX5_needArticle 15 = .ok (.dup, 1) := by decide +kernel
theorem dX5_needArticle_16 : decode cX5_needArticle 16 = .ok (.ldc 236, 2) := by decide +kernel
theorem dX5_needArticle_18 : decode cX5_needArticle 18 = .ok (.invokespecial 216, 3) := by decide +kernel
theorem dX5_needArticle_21 : decode cX5_needArticle 21 = .ok (.athrow, 1) := by decide +kernel
theorem dX5_needArticle_22 : decode cX5_needArticle 22 = .ok (.return_, 1) := by decide +kernel
theorem dX5_needCoupon_0 : decode cX5_needCoupon 0 = .ok (.iload_n 1, 1) := by decide +kernel
theorem dX5_needCoupon_1 : decode cX5_needCoupon 1 = .ok (.ifCond .lt 11, 3) := by decide +kernel
theorem dX5_needCoupon_4 : decode cX5_needCoupon 4 = .ok (.iload_n 1, 1) := by decide +kernel
theorem dX5_needCoupon_5 : decode cX5_needCoupon 5 = .ok (.aload_n 0, 1) := by decide +kernel
theorem dX5_needCoupon_6 : decode cX5_needCoupon 6 = .ok (.getfield 46, 3) := by decide +kernel
theorem dX5_needCoupon_9 : decode cX5_needCoupon 9 = .ok (.if_icmp .lt 13, 3) := by decide +kernel
theorem dX5_needCoupon_12 : decode cX5_needCoupon 12 = .ok (.new 212, 3) := by decide +kernel
theorem dX5_needCoupon_15 : decode cX5_needCoupon 15 = .ok (.dup, 1) := by decide +kernel
theorem dX5_needCoupon_16 : decode cX5_needCoupon 16 = .ok (.ldc 238, 2) := by decide +kernel
theorem dX5_needCoupon_18 : decode cX5_needCoupon 18 = .ok (.invokespecial 216, 3) := by decide +kernel
theorem dX5_needCoupon_21 : decode cX5_needCoupon 21 = .ok (.athrow, 1) := by decide +kernel
theorem dX5_needCoupon_22 : decode cX5_needCoupon 22 = .ok (.return_, 1) := by decide +kernel
theorem dX5_needOrder_0 : decode cX5_needOrder 0 = .ok (.iload_n 1, 1) := by decide +kernel
theorem dX5_needOrder_1 : decode cX5_needOrder 1 = .ok (.ifCond .lt 11, 3) := by decide +kernel
theorem dX5_needOrder_4 : decode cX5_needOrder 4 = .ok (.iload_n 1, 1) := by decide +kernel
theorem dX5_needOrder_5 : decode cX5_needOrder 5 = .ok (.aload_n 0, 1) := by decide +kernel
theorem dX5_needOrder_6 : decode cX5_needOrder 6 = .ok (.getfield 49, 3) := by decide +kernel
theorem dX5_needOrder_9 : decode cX5_needOrder 9 = .ok (.if_icmp .lt 13, 3) := by decide +kernel
theorem dX5_needOrder_12 : decode cX5_needOrder 12 = .ok (.new 212, 3) := by decide +kernel
theorem dX5_needOrder_15 : decode cX5_needOrder 15 = .ok (.dup, 1) := by decide +kernel
theorem dX5_needOrder_16 : decode cX5_needOrder 16 = .ok (.ldc 240, 2) := by decide +kernel
theorem dX5_needOrder_18 : decode cX5_needOrder 18 = .ok (.invokespecial 216, 3) := by decide +kernel
theorem dX5_needOrder_21 : decode cX5_needOrder 21 = .ok (.athrow, 1) := by decide +kernel
theorem dX5_needOrder_22 : decode cX5_needOrder 22 = .ok (.return_, 1) := by decide +kernel
theorem dX5_needPrice_0 : decode cX5_needPrice 0 = .ok (.iload_n 0, 1) := by decide +kernel
theorem dX5_needPrice_1 : decode cX5_needPrice 1 = .ok (.iconst 1, 1) := by decide +kernel
theorem dX5_needPrice_2 : decode cX5_needPrice 2 = .ok (.if_icmp .lt 10, 3) := by decide +kernel
theorem dX5_needPrice_5 : decode cX5_needPrice 5 = .ok (.iload_n 0, 1) := by decide +kernel
theorem dX5_needPrice_6 : decode cX5_needPrice 6 = .ok (.sipush 10000, 3) := by decide +kernel
theorem dX5_needPrice_9 : decode cX5_needPrice 9 = .ok (.if_icmp .le 13, 3) := by decide +kernel
theorem dX5_needPrice_12 : decode cX5_needPrice 12 = .ok (.new 65, 3) := by decide +kernel
theorem dX5_needPrice_15 : decode cX5_needPrice 15 = .ok (.dup, 1) := by decide +kernel
theorem dX5_needPrice_16 : decode cX5_needPrice 16 = .ok (.ldc 242, 2) := by decide +kernel
theorem dX5_needPrice_18 : decode cX5_needPrice 18 = .ok (.invokespecial 69, 3) := by decide +kernel
theorem dX5_needPrice_21 : decode cX5_needPrice 21 = .ok (.athrow, 1) := by decide +kernel
theorem dX5_needPrice_22 : decode cX5_needPrice 22 = .ok (.return_, 1) := by decide +kernel
theorem dX5_needCoupons_0 : decode cX5_needCoupons 0 = .ok (.iload_n 1, 1) := by decide +kernel
theorem dX5_needCoupons_1 : decode cX5_needCoupons 1 = .ok (.ifCond .lt 13, 3) := by decide +kernel
theorem dX5_needCoupons_4 : decode cX5_needCoupons 4 = .ok (.iload_n 1, 1) := by decide +kernel
theorem dX5_needCoupons_5 : decode cX5_needCoupons 5 = .ok (.iconst 1, 1) := by decide +kernel
theorem dX5_needCoupons_6 : decode cX5_needCoupons 6 = .ok (.aload_n 0, 1) := by decide +kernel
theorem dX5_needCoupons_7 : decode cX5_needCoupons 7 = .ok (.getfield 46, 3) := by decide +kernel
theorem dX5_needCoupons_10 : decode cX5_needCoupons 10 = .ok (.ishl, 1) := by decide +kernel
theorem dX5_needCoupons_11 : decode cX5_needCoupons 11 = .ok (.if_icmp .lt 13, 3) := by decide +kernel
theorem dX5_needCoupons_14 : decode cX5_needCoupons 14 = .ok (.new 65, 3) := by decide +kernel
theorem dX5_needCoupons_17 : decode cX5_needCoupons 17 = .ok (.dup, 1) := by decide +kernel
theorem dX5_needCoupons_18 : decode cX5_needCoupons 18 = .ok (.ldc 244, 2) := by decide +kernel
theorem dX5_needCoupons_20 : decode cX5_needCoupons 20 = .ok (.invokespecial 69, 3) := by decide +kernel
theorem dX5_needCoupons_23 : decode cX5_needCoupons 23 = .ok (.athrow, 1) := by decide +kernel
theorem dX5_needCoupons_24 : decode cX5_needCoupons 24 = .ok (.return_, 1) := by decide +kernel
theorem dX5_needAllowed_0 : decode cX5_needAllowed 0 = .ok (.aload_n 0, 1) := by decide +kernel
theorem dX5_needAllowed_1 : decode cX5_needAllowed 1 = .ok (.iload_n 1, 1) := by decide +kernel
theorem dX5_needAllowed_2 : decode cX5_needAllowed 2 = .ok (.invokevirtual 144, 3) := by decide +kernel
theorem dX5_needAllowed_5 : decode cX5_needAllowed 5 = .ok (.ifCond .ne 13, 3) := by decide +kernel
theorem dX5_needAllowed_8 : decode cX5_needAllowed 8 = .ok (.new 72, 3) := by decide +kernel
theorem dX5_needAllowed_11 : decode cX5_needAllowed 11 = .ok (.dup, 1) := by decide +kernel
theorem dX5_needAllowed_12 : decode cX5_needAllowed 12 = .ok (.ldc 246, 2) := by decide +kernel
theorem dX5_needAllowed_14 : decode cX5_needAllowed 14 = .ok (.invokespecial 76, 3) := by decide +kernel
theorem dX5_needAllowed_17 : decode cX5_needAllowed 17 = .ok (.athrow, 1) := by decide +kernel
theorem dX5_needAllowed_18 : decode cX5_needAllowed 18 = .ok (.return_, 1) := by decide +kernel
theorem dX5_isValueOfKind_0 : decode cX5_isValueOfKind 0 = .ok (.iload_n 0, 1) := by decide +kernel
theorem dX5_isValueOfKind_1 : decode cX5_isValueOfKind 1 = .ok (.tableswitch 92 0 3 #[31, 48, 65, 82], 31) := by decide +kernel
theorem dX5_isValueOfKind_32 : decode cX5_isValueOfKind 32 = .ok (.iload_n 1, 1) := by decide +kernel
theorem dX5_isValueOfKind_33 : decode cX5_isValueOfKind 33 = .ok (.iconst 1, 1) := by decide +kernel
theorem dX5_isValueOfKind_34 : decode cX5_isValueOfKind 34 = .ok (.if_icmp .lt 13, 3) := by decide +kernel
theorem dX5_isValueOfKind_37 : decode cX5_isValueOfKind 37 = .ok (.iload_n 1, 1) := by decide +kernel
theorem dX5_isValueOfKind_38 : decode cX5_isValueOfKind 38 = .ok (.bipush 100, 2) := by decide +kernel
theorem dX5_isValueOfKind_40 : decode cX5_isValueOfKind 40 = .ok (.if_icmp .gt 7, 3) := by decide +kernel
theorem dX5_isValueOfKind_43 : decode cX5_isValueOfKind 43 = .ok (.iconst 1, 1) := by decide +kernel
theorem dX5_isValueOfKind_44 : decode cX5_isValueOfKind 44 = .ok (.goto 4, 3) := by decide +kernel
theorem dX5_isValueOfKind_47 : decode cX5_isValueOfKind 47 = .ok (.iconst 0, 1) := by decide +kernel
theorem dX5_isValueOfKind_48 : decode cX5_isValueOfKind 48 = .ok (.ireturn, 1) := by decide +kernel
theorem dX5_isValueOfKind_49 : decode cX5_isValueOfKind 49 = .ok (.iload_n 1, 1) := by decide +kernel
theorem dX5_isValueOfKind_50 : decode cX5_isValueOfKind 50 = .ok (.iconst 1, 1) := by decide +kernel
theorem dX5_isValueOfKind_51 : decode cX5_isValueOfKind 51 = .ok (.if_icmp .lt 13, 3) := by decide +kernel
theorem dX5_isValueOfKind_54 : decode cX5_isValueOfKind 54 = .ok (.iload_n 1, 1) := by decide +kernel
theorem dX5_isValueOfKind_55 : decode cX5_isValueOfKind 55 = .ok (.ldc 248, 2) := by decide +kernel
theorem dX5_isValueOfKind_57 : decode cX5_isValueOfKind 57 = .ok (.if_icmp .gt 7, 3) := by decide +kernel
theorem dX5_isValueOfKind_60 : decode cX5_isValueOfKind 60 = .ok (.iconst 1, 1) := by decide +kernel
theorem dX5_isValueOfKind_61 : decode cX5_isValueOfKind 61 = .ok (.goto 4, 3) := by decide +kernel
theorem dX5_isValueOfKind_64 : decode cX5_isValueOfKind 64 = .ok (.iconst 0, 1) := by decide +kernel
theorem dX5_isValueOfKind_65 : decode cX5_isValueOfKind 65 = .ok (.ireturn, 1) := by decide +kernel
theorem dX5_isValueOfKind_66 : decode cX5_isValueOfKind 66 = .ok (.iload_n 1, 1) := by decide +kernel
theorem dX5_isValueOfKind_67 : decode cX5_isValueOfKind 67 = .ok (.iconst 2, 1) := by decide +kernel
theorem dX5_isValueOfKind_68 : decode cX5_isValueOfKind 68 = .ok (.if_icmp .lt 13, 3) := by decide +kernel
theorem dX5_isValueOfKind_71 : decode cX5_isValueOfKind 71 = .ok (.iload_n 1, 1) := by decide +kernel
theorem dX5_isValueOfKind_72 : decode cX5_isValueOfKind 72 = .ok (.bipush 9, 2) := by decide +kernel
theorem dX5_isValueOfKind_74 : decode cX5_isValueOfKind 74 = .ok (.if_icmp .gt 7, 3) := by decide +kernel
theorem dX5_isValueOfKind_77 : decode cX5_isValueOfKind 77 = .ok (.iconst 1, 1) := by decide +kernel
theorem dX5_isValueOfKind_78 : decode cX5_isValueOfKind 78 = .ok (.goto 4, 3) := by decide +kernel
theorem dX5_isValueOfKind_81 : decode cX5_isValueOfKind 81 = .ok (.iconst 0, 1) := by decide +kernel
theorem dX5_isValueOfKind_82 : decode cX5_isValueOfKind 82 = .ok (.ireturn, 1) := by decide +kernel
theorem dX5_isValueOfKind_83 : decode cX5_isValueOfKind 83 = .ok (.iload_n 1, 1) := by decide +kernel
theorem dX5_isValueOfKind_84 : decode cX5_isValueOfKind 84 = .ok (.ifCond .ne 7, 3) := by decide +kernel
theorem dX5_isValueOfKind_87 : decode cX5_isValueOfKind 87 = .ok (.iconst 1, 1) := by decide +kernel
theorem dX5_isValueOfKind_88 : decode cX5_isValueOfKind 88 = .ok (.goto 4, 3) := by decide +kernel
theorem dX5_isValueOfKind_91 : decode cX5_isValueOfKind 91 = .ok (.iconst 0, 1) := by decide +kernel
theorem dX5_isValueOfKind_92 : decode cX5_isValueOfKind 92 = .ok (.ireturn, 1) := by decide +kernel
theorem dX5_isValueOfKind_93 : decode cX5_isValueOfKind 93 = .ok (.iconst 0, 1) := by decide +kernel
theorem dX5_isValueOfKind_94 : decode cX5_isValueOfKind 94 = .ok (.ireturn, 1) := by decide +kernel
theorem dX5_contains_0 : decode cX5_contains 0 = .ok (.iload_n 0, 1) := by decide +kernel
theorem dX5_contains_1 : decode cX5_contains 1 = .ok (.iload_n 1, 1) := by decide +kernel
theorem dX5_contains_2 : decode cX5_contains 2 = .ok (.ishr, 1) := by decide +kernel
theorem dX5_contains_3 : decode cX5_contains 3 = .ok (.iconst 1, 1) := by decide +kernel
theorem dX5_contains_4 : decode cX5_contains 4 = .ok (.iand, 1) := by decide +kernel
theorem dX5_contains_5 : decode cX5_contains 5 = .ok (.ifCond .eq 7, 3) := by decide +kernel
theorem dX5_contains_8 : decode cX5_contains 8 = .ok (.iconst 1, 1) := by decide +kernel
theorem dX5_contains_9 : decode cX5_contains 9 = .ok (.goto 4, 3) := by decide +kernel
theorem dX5_contains_12 : decode cX5_contains 12 = .ok (.iconst 0, 1) := by decide +kernel
theorem dX5_contains_13 : decode cX5_contains 13 = .ok (.ireturn, 1) := by decide +kernel
theorem dX5_isSetAllowed_0 : decode cX5_isSetAllowed 0 = .ok (.iconst 0, 1) := by decide +kernel
theorem dX5_isSetAllowed_1 : decode cX5_isSetAllowed 1 = .ok (.istore_n 2, 1) := by decide +kernel
theorem dX5_isSetAllowed_2 : decode cX5_isSetAllowed 2 = .ok (.iload_n 2, 1) := by decide +kernel
theorem dX5_isSetAllowed_3 : decode cX5_isSetAllowed 3 = .ok (.aload_n 0, 1) := by decide +kernel
theorem dX5_isSetAllowed_4 : decode cX5_isSetAllowed 4 = .ok (.getfield 46, 3) := by decide +kernel
theorem dX5_isSetAllowed_7 : decode cX5_isSetAllowed 7 = .ok (.if_icmp .ge 52, 3) := by decide +kernel
theorem dX5_isSetAllowed_10 : decode cX5_isSetAllowed 10 = .ok (.iload_n 1, 1) := by decide +kernel
theorem dX5_isSetAllowed_11 : decode cX5_isSetAllowed 11 = .ok (.iload_n 2, 1) := by decide +kernel
theorem dX5_isSetAllowed_12 : decode cX5_isSetAllowed 12 = .ok (.invokestatic 249, 3) := by decide +kernel
theorem dX5_isSetAllowed_15 : decode cX5_isSetAllowed 15 = .ok (.ifCond .eq 38, 3) := by decide +kernel
theorem dX5_isSetAllowed_18 : decode cX5_isSetAllowed 18 = .ok (.iload_n 1, 1) := by decide +kernel
theorem dX5_isSetAllowed_19 : decode cX5_isSetAllowed 19 = .ok (.iconst 1, 1) := by decide +kernel
theorem dX5_isSetAllowed_20 : decode cX5_isSetAllowed 20 = .ok (.iload_n 2, 1) := by decide +kernel
theorem dX5_isSetAllowed_21 : decode cX5_isSetAllowed 21 = .ok (.ishl, 1) := by decide +kernel
theorem dX5_isSetAllowed_22 : decode cX5_isSetAllowed 22 = .ok (.iconst 1, 1) := by decide +kernel
theorem dX5_isSetAllowed_23 : decode cX5_isSetAllowed 23 = .ok (.isub, 1) := by decide +kernel
theorem dX5_isSetAllowed_24 : decode cX5_isSetAllowed 24 = .ok (.iand, 1) := by decide +kernel
theorem dX5_isSetAllowed_25 : decode cX5_isSetAllowed 25 = .ok (.istore_n 3, 1) := by decide +kernel
theorem dX5_isSetAllowed_26 : decode cX5_isSetAllowed 26 = .ok (.aload_n 0, 1) := by decide +kernel
theorem dX5_isSetAllowed_27 : decode cX5_isSetAllowed 27 = .ok (.getfield 18, 3) := by decide +kernel
theorem dX5_isSetAllowed_30 : decode cX5_isSetAllowed 30 = .ok (.iload_n 2, 1) := by decide +kernel
theorem dX5_isSetAllowed_31 : decode cX5_isSetAllowed 31 = .ok (.aaload, 1) := by decide +kernel
theorem dX5_isSetAllowed_32 : decode cX5_isSetAllowed 32 = .ok (.aload_n 0, 1) := by decide +kernel
theorem dX5_isSetAllowed_33 : decode cX5_isSetAllowed 33 = .ok (.getfield 12, 3) := by decide +kernel
theorem dX5_isSetAllowed_36 : decode cX5_isSetAllowed 36 = .ok (.invokevirtual 128, 3) := by decide +kernel
theorem dX5_isSetAllowed_39 : decode cX5_isSetAllowed 39 = .ok (.ifCond .eq 12, 3) := by decide +kernel
theorem dX5_isSetAllowed_42 : decode cX5_isSetAllowed 42 = .ok (.aload_n 0, 1) := by decide +kernel
theorem dX5_isSetAllowed_43 : decode cX5_isSetAllowed 43 = .ok (.iload_n 2, 1) := by decide +kernel
theorem dX5_isSetAllowed_44 : decode cX5_isSetAllowed 44 = .ok (.iload_n 3, 1) := by decide +kernel
theorem dX5_isSetAllowed_45 : decode cX5_isSetAllowed 45 = .ok (.invokevirtual 252, 3) := by decide +kernel
theorem dX5_isSetAllowed_48 : decode cX5_isSetAllowed 48 = .ok (.ifCond .ne 5, 3) := by decide +kernel
theorem dX5_isSetAllowed_51 : decode cX5_isSetAllowed 51 = .ok (.iconst 0, 1) := by decide +kernel
theorem dX5_isSetAllowed_52 : decode cX5_isSetAllowed 52 = .ok (.ireturn, 1) := by decide +kernel
theorem dX5_isSetAllowed_53 : decode cX5_isSetAllowed 53 = .ok (.iinc 2 1, 3) := by decide +kernel
theorem dX5_isSetAllowed_56 : decode cX5_isSetAllowed 56 = .ok (.goto (-54), 3) := by decide +kernel
theorem dX5_isSetAllowed_59 : decode cX5_isSetAllowed 59 = .ok (.iconst 1, 1) := by decide +kernel
theorem dX5_isSetAllowed_60 : decode cX5_isSetAllowed 60 = .ok (.ireturn, 1) := by decide +kernel
theorem dX5_isGroupFree_0 : decode cX5_isGroupFree 0 = .ok (.aload_n 0, 1) := by decide +kernel
theorem dX5_isGroupFree_1 : decode cX5_isGroupFree 1 = .ok (.getfield 18, 3) := by decide +kernel
theorem dX5_isGroupFree_4 : decode cX5_isGroupFree 4 = .ok (.iload_n 1, 1) := by decide +kernel
theorem dX5_isGroupFree_5 : decode cX5_isGroupFree 5 = .ok (.aaload, 1) := by decide +kernel
theorem dX5_isGroupFree_6 : decode cX5_isGroupFree 6 = .ok (.getfield 255, 3) := by decide +kernel
theorem dX5_isGroupFree_9 : decode cX5_isGroupFree 9 = .ok (.istore_n 3, 1) := by decide +kernel
theorem dX5_isGroupFree_10 : decode cX5_isGroupFree 10 = .ok (.iload_n 3, 1) := by decide +kernel
theorem dX5_isGroupFree_11 : decode cX5_isGroupFree 11 = .ok (.ifCond .ne 5, 3) := by decide +kernel
theorem dX5_isGroupFree_14 : decode cX5_isGroupFree 14 = .ok (.iconst 1, 1) := by decide +kernel
theorem dX5_isGroupFree_15 : decode cX5_isGroupFree 15 = .ok (.ireturn, 1) := by decide +kernel
theorem dX5_isGroupFree_16 : decode cX5_isGroupFree 16 = .ok (.iconst 0, 1) := by decide +kernel
theorem dX5_isGroupFree_17 : decode cX5_isGroupFree 17 = .ok (.istore 4, 2) := by decide +kernel
theorem dX5_isGroupFree_19 : decode cX5_isGroupFree 19 = .ok (.iload 4, 2) := by decide +kernel
theorem dX5_isGroupFree_21 : decode cX5_isGroupFree 21 = .ok (.aload_n 0, 1) := by decide +kernel
theorem dX5_isGroupFree_22 : decode cX5_isGroupFree 22 = .ok (.getfield 46, 3) := by decide +kernel
theorem dX5_isGroupFree_25 : decode cX5_isGroupFree 25 = .ok (.if_icmp .ge 34, 3) := by decide +kernel
theorem dX5_isGroupFree_28 : decode cX5_isGroupFree 28 = .ok (.iload_n 2, 1) := by decide +kernel
theorem dX5_isGroupFree_29 : decode cX5_isGroupFree 29 = .ok (.iload 4, 2) := by decide +kernel
theorem dX5_isGroupFree_31 : decode cX5_isGroupFree 31 = .ok (.invokestatic 249, 3) := by decide +kernel
theorem dX5_isGroupFree_34 : decode cX5_isGroupFree 34 = .ok (.ifCond .eq 19, 3) := by decide +kernel
theorem dX5_isGroupFree_37 : decode cX5_isGroupFree 37 = .ok (.aload_n 0, 1) := by decide +kernel
theorem dX5_isGroupFree_38 : decode cX5_isGroupFree 38 = .ok (.getfield 18, 3) := by decide +kernel
theorem dX5_isGroupFree_41 : decode cX5_isGroupFree 41 = .ok (.iload 4, 2) := by decide +kernel
theorem dX5_isGroupFree_43 : decode cX5_isGroupFree 43 = .ok (.aaload, 1) := by decide +kernel
theorem dX5_isGroupFree_44 : decode cX5_isGroupFree 44 = .ok (.getfield 255, 3) := by decide +kernel
theorem dX5_isGroupFree_47 : decode cX5_isGroupFree 47 = .ok (.iload_n 3, 1) := by decide +kernel
theorem dX5_isGroupFree_48 : decode cX5_isGroupFree 48 = .ok (.if_icmp .ne 5, 3) := by decide +kernel
theorem dX5_isGroupFree_51 : decode cX5_isGroupFree 51 = .ok (.iconst 0, 1) := by decide +kernel
theorem dX5_isGroupFree_52 : decode cX5_isGroupFree 52 = .ok (.ireturn, 1) := by decide +kernel
theorem dX5_isGroupFree_53 : decode cX5_isGroupFree 53 = .ok (.iinc 4 1, 3) := by decide +kernel
theorem dX5_isGroupFree_56 : decode cX5_isGroupFree 56 = .ok (.goto (-37), 3) := by decide +kernel
theorem dX5_isGroupFree_59 : decode cX5_isGroupFree 59 = .ok (.iconst 1, 1) := by decide +kernel
theorem dX5_isGroupFree_60 : decode cX5_isGroupFree 60 = .ok (.ireturn, 1) := by decide +kernel
theorem dX5_usableForBasket_0 : decode cX5_usableForBasket 0 = .ok (.iconst 0, 1) := by decide +kernel
theorem dX5_usableForBasket_1 : decode cX5_usableForBasket 1 = .ok (.istore_n 1, 1) := by decide +kernel
theorem dX5_usableForBasket_2 : decode cX5_usableForBasket 2 = .ok (.iconst 0, 1) := by decide +kernel
theorem dX5_usableForBasket_3 : decode cX5_usableForBasket 3 = .ok (.istore_n 2, 1) := by decide +kernel
theorem dX5_usableForBasket_4 : decode cX5_usableForBasket 4 = .ok (.iload_n 2, 1) := by decide +kernel
theorem dX5_usableForBasket_5 : decode cX5_usableForBasket 5 = .ok (.aload_n 0, 1) := by decide +kernel
theorem dX5_usableForBasket_6 : decode cX5_usableForBasket 6 = .ok (.getfield 46, 3) := by decide +kernel
theorem dX5_usableForBasket_9 : decode cX5_usableForBasket 9 = .ok (.if_icmp .ge 31, 3) := by decide +kernel
theorem dX5_usableForBasket_12 : decode cX5_usableForBasket 12 = .ok (.aload_n 0, 1) := by decide +kernel
theorem dX5_usableForBasket_13 : decode cX5_usableForBasket 13 = .ok (.getfield 18, 3) := by decide +kernel
theorem dX5_usableForBasket_16 : decode cX5_usableForBasket 16 = .ok (.iload_n 2, 1) := by decide +kernel
theorem dX5_usableForBasket_17 : decode cX5_usableForBasket 17 = .ok (.aaload, 1) := by decide +kernel
theorem dX5_usableForBasket_18 : decode cX5_usableForBasket 18 = .ok (.aload_n 0, 1) := by decide +kernel
theorem dX5_usableForBasket_19 : decode cX5_usableForBasket 19 = .ok (.getfield 12, 3) := by decide +kernel
theorem dX5_usableForBasket_22 : decode cX5_usableForBasket 22 = .ok (.invokevirtual 128, 3) := by decide +kernel
theorem dX5_usableForBasket_25 : decode cX5_usableForBasket 25 = .ok (.ifCond .eq 9, 3) := by decide +kernel
theorem dX5_usableForBasket_28 : decode cX5_usableForBasket 28 = .ok (.iload_n 1, 1) := by decide +kernel
theorem dX5_usableForBasket_29 : decode cX5_usableForBasket 29 = .ok (.iconst 1, 1) := by decide +kernel
theorem dX5_usableForBasket_30 : decode cX5_usableForBasket 30 = .ok (.iload_n 2, 1) := by decide +kernel
theorem dX5_usableForBasket_31 : decode cX5_usableForBasket 31 = .ok (.ishl, 1) := by decide +kernel
theorem dX5_usableForBasket_32 : decode cX5_usableForBasket 32 = .ok (.ior, 1) := by decide +kernel
theorem dX5_usableForBasket_33 : decode cX5_usableForBasket 33 = .ok (.istore_n 1, 1) := by decide +kernel
theorem dX5_usableForBasket_34 : decode cX5_usableForBasket 34 = .ok (.iinc 2 1, 3) := by decide +kernel
theorem dX5_usableForBasket_37 : decode cX5_usableForBasket 37 = .ok (.goto (-33), 3) := by decide +kernel
theorem dX5_usableForBasket_40 : decode cX5_usableForBasket 40 = .ok (.iload_n 1, 1) := by decide +kernel
theorem dX5_usableForBasket_41 : decode cX5_usableForBasket 41 = .ok (.ireturn, 1) := by decide +kernel
theorem dX5_stillReached_0 : decode cX5_stillReached 0 = .ok (.iconst 0, 1) := by decide +kernel
theorem dX5_stillReached_1 : decode cX5_stillReached 1 = .ok (.istore_n 2, 1) := by decide +kernel
theorem dX5_stillReached_2 : decode cX5_stillReached 2 = .ok (.iconst 0, 1) := by decide +kernel
theorem dX5_stillReached_3 : decode cX5_stillReached 3 = .ok (.istore_n 3, 1) := by decide +kernel
theorem dX5_stillReached_4 : decode cX5_stillReached 4 = .ok (.iload_n 3, 1) := by decide +kernel
theorem dX5_stillReached_5 : decode cX5_stillReached 5 = .ok (.aload_n 0, 1) := by decide +kernel
theorem dX5_stillReached_6 : decode cX5_stillReached 6 = .ok (.getfield 46, 3) := by decide +kernel
theorem dX5_stillReached_9 : decode cX5_stillReached 9 = .ok (.if_icmp .ge 42, 3) := by decide +kernel
theorem dX5_stillReached_12 : decode cX5_stillReached 12 = .ok (.aload_n 1, 1) := by decide +kernel
theorem dX5_stillReached_13 : decode cX5_stillReached 13 = .ok (.getfield 206, 3) := by decide +kernel
theorem dX5_stillReached_16 : decode cX5_stillReached 16 = .ok (.iload_n 3, 1) := by decide +kernel
theorem dX5_stillReached_17 : decode cX5_stillReached 17 = .ok (.invokestatic 249, 3) := by decide +kernel
theorem dX5_stillReached_20 : decode cX5_stillReached 20 = .ok (.ifCond .eq 25, 3) := by decide +kernel
theorem dX5_stillReached_23 : decode cX5_stillReached 23 = .ok (.aload_n 0, 1) := by decide +kernel
theorem dX5_stillReached_24 : decode cX5_stillReached 24 = .ok (.getfield 18, 3) := by decide +kernel
theorem dX5_stillReached_27 : decode cX5_stillReached 27 = .ok (.iload_n 3, 1) := by decide +kernel
theorem dX5_stillReached_28 : decode cX5_stillReached 28 = .ok (.aaload, 1) := by decide +kernel
theorem dX5_stillReached_29 : decode cX5_stillReached 29 = .ok (.aload_n 1, 1) := by decide +kernel
theorem dX5_stillReached_30 : decode cX5_stillReached 30 = .ok (.getfield 197, 3) := by decide +kernel
theorem dX5_stillReached_33 : decode cX5_stillReached 33 = .ok (.invokevirtual 258, 3) := by decide +kernel
theorem dX5_stillReached_36 : decode cX5_stillReached 36 = .ok (.ifCond .eq 9, 3) := by decide +kernel
theorem dX5_stillReached_39 : decode cX5_stillReached 39 = .ok (.iload_n 2, 1) := by decide +kernel
theorem dX5_stillReached_40 : decode cX5_stillReached 40 = .ok (.iconst 1, 1) := by decide +kernel
theorem dX5_stillReached_41 : decode cX5_stillReached 41 = .ok (.iload_n 3, 1) := by decide +kernel
theorem dX5_stillReached_42 : decode cX5_stillReached 42 = .ok (.ishl, 1) := by decide +kernel
theorem dX5_stillReached_43 : decode cX5_stillReached 43 = .ok (.ior, 1) := by decide +kernel
theorem dX5_stillReached_44 : decode cX5_stillReached 44 = .ok (.istore_n 2, 1) := by decide +kernel
theorem dX5_stillReached_45 : decode cX5_stillReached 45 = .ok (.iinc 3 1, 3) := by decide +kernel
theorem dX5_stillReached_48 : decode cX5_stillReached 48 = .ok (.goto (-44), 3) := by decide +kernel
theorem dX5_stillReached_51 : decode cX5_stillReached 51 = .ok (.iload_n 2, 1) := by decide +kernel
theorem dX5_stillReached_52 : decode cX5_stillReached 52 = .ok (.ireturn, 1) := by decide +kernel
theorem dX5_useUp_0 : decode cX5_useUp 0 = .ok (.iconst 0, 1) := by decide +kernel
theorem dX5_useUp_1 : decode cX5_useUp 1 = .ok (.istore_n 2, 1) := by decide +kernel
theorem dX5_useUp_2 : decode cX5_useUp 2 = .ok (.iload_n 2, 1) := by decide +kernel
theorem dX5_useUp_3 : decode cX5_useUp 3 = .ok (.aload_n 0, 1) := by decide +kernel
theorem dX5_useUp_4 : decode cX5_useUp 4 = .ok (.getfield 46, 3) := by decide +kernel
theorem dX5_useUp_7 : decode cX5_useUp 7 = .ok (.if_icmp .ge 32, 3) := by decide +kernel
theorem dX5_useUp_10 : decode cX5_useUp 10 = .ok (.iload_n 1, 1) := by decide +kernel
theorem dX5_useUp_11 : decode cX5_useUp 11 = .ok (.iload_n 2, 1) := by decide +kernel
theorem dX5_useUp_12 : decode cX5_useUp 12 = .ok (.invokestatic 249, 3) := by decide +kernel
theorem dX5_useUp_15 : decode cX5_useUp 15 = .ok (.ifCond .eq 18, 3) := by decide +kernel
theorem dX5_useUp_18 : decode cX5_useUp 18 = .ok (.aload_n 0, 1) := by decide +kernel
theorem dX5_useUp_19 : decode cX5_useUp 19 = .ok (.getfield 18, 3) := by decide +kernel
theorem dX5_useUp_22 : decode cX5_useUp 22 = .ok (.iload_n 2, 1) := by decide +kernel
theorem dX5_useUp_23 : decode cX5_useUp 23 = .ok (.aaload, 1) := by decide +kernel
theorem dX5_useUp_24 : decode cX5_useUp 24 = .ok (.dup, 1) := by decide +kernel
theorem dX5_useUp_25 : decode cX5_useUp 25 = .ok (.getfield 123, 3) := by decide +kernel
theorem dX5_useUp_28 : decode cX5_useUp 28 = .ok (.iconst 1, 1) := by decide +kernel
theorem dX5_useUp_29 : decode cX5_useUp 29 = .ok (.isub, 1) := by decide +kernel
theorem dX5_useUp_30 : decode cX5_useUp 30 = .ok (.putfield 123, 3) := by decide +kernel
theorem dX5_useUp_33 : decode cX5_useUp 33 = .ok (.iinc 2 1, 3) := by decide +kernel
theorem dX5_useUp_36 : decode cX5_useUp 36 = .ok (.goto (-34), 3) := by decide +kernel
theorem dX5_useUp_39 : decode cX5_useUp 39 = .ok (.return_, 1) := by decide +kernel
theorem dX5_layAndApply_0 : decode cX5_layAndApply 0 = .ok (.aload_n 0, 1) := by decide +kernel
theorem dX5_layAndApply_1 : decode cX5_layAndApply 1 = .ok (.getfield 31, 3) := by decide +kernel
theorem dX5_layAndApply_4 : decode cX5_layAndApply 4 = .ok (.aload_n 1, 1) := by decide +kernel
theorem dX5_layAndApply_5 : decode cX5_layAndApply 5 = .ok (.invokevirtual 261, 3) := by decide +kernel
theorem dX5_layAndApply_8 : decode cX5_layAndApply 8 = .ok (.iconst 0, 1) := by decide +kernel
theorem dX5_layAndApply_9 : decode cX5_layAndApply 9 = .ok (.istore_n 3, 1) := by decide +kernel
theorem dX5_layAndApply_10 : decode cX5_layAndApply 10 = .ok (.iload_n 3, 1) := by decide +kernel
theorem dX5_layAndApply_11 : decode cX5_layAndApply 11 = .ok (.aload_n 0, 1) := by decide +kernel
theorem dX5_layAndApply_12 : decode cX5_layAndApply 12 = .ok (.getfield 46, 3) := by decide +kernel
theorem dX5_layAndApply_15 : decode cX5_layAndApply 15 = .ok (.if_icmp .ge 31, 3) := by decide +kernel
theorem dX5_layAndApply_18 : decode cX5_layAndApply 18 = .ok (.iload_n 2, 1) := by decide +kernel
theorem dX5_layAndApply_19 : decode cX5_layAndApply 19 = .ok (.iload_n 3, 1) := by decide +kernel
theorem dX5_layAndApply_20 : decode cX5_layAndApply 20 = .ok (.invokestatic 249, 3) := by decide +kernel
theorem dX5_layAndApply_23 : decode cX5_layAndApply 23 = .ok (.ifCond .eq 17, 3) := by decide +kernel
theorem dX5_layAndApply_26 : decode cX5_layAndApply 26 = .ok (.aload_n 0, 1) := by decide +kernel
theorem dX5_layAndApply_27 : decode cX5_layAndApply 27 = .ok (.getfield 31, 3) := by decide +kernel
theorem dX5_layAndApply_30 : decode cX5_layAndApply 30 = .ok (.aload_n 0, 1) := by decide +kernel
theorem dX5_layAndApply_31 : decode cX5_layAndApply 31 = .ok (.getfield 18, 3) := by decide +kernel
theorem dX5_layAndApply_34 : decode cX5_layAndApply 34 = .ok (.iload_n 3, 1) := by decide +kernel
theorem dX5_layAndApply_35 : decode cX5_layAndApply 35 = .ok (.aaload, 1) := by decide +kernel
theorem dX5_layAndApply_36 : decode cX5_layAndApply 36 = .ok (.iconst 0, 1) := by decide +kernel
theorem dX5_layAndApply_37 : decode cX5_layAndApply 37 = .ok (.invokevirtual 265, 3) := by decide +kernel
theorem dX5_layAndApply_40 : decode cX5_layAndApply 40 = .ok (.iinc 3 1, 3) := by decide +kernel
theorem dX5_layAndApply_43 : decode cX5_layAndApply 43 = .ok (.goto (-33), 3) := by decide +kernel
theorem dX5_layAndApply_46 : decode cX5_layAndApply 46 = .ok (.return_, 1) := by decide +kernel
theorem dX5_goodsOf_0 : decode cX5_goodsOf 0 = .ok (.aload_n 0, 1) := by decide +kernel
theorem dX5_goodsOf_1 : decode cX5_goodsOf 1 = .ok (.aload_n 1, 1) := by decide +kernel
theorem dX5_goodsOf_2 : decode cX5_goodsOf 2 = .ok (.iload_n 2, 1) := by decide +kernel
theorem dX5_goodsOf_3 : decode cX5_goodsOf 3 = .ok (.invokevirtual 158, 3) := by decide +kernel
theorem dX5_goodsOf_6 : decode cX5_goodsOf 6 = .ok (.aload_n 0, 1) := by decide +kernel
theorem dX5_goodsOf_7 : decode cX5_goodsOf 7 = .ok (.getfield 31, 3) := by decide +kernel
theorem dX5_goodsOf_10 : decode cX5_goodsOf 10 = .ok (.iconst 0, 1) := by decide +kernel
theorem dX5_goodsOf_11 : decode cX5_goodsOf 11 = .ok (.invokevirtual 269, 3) := by decide +kernel
theorem dX5_goodsOf_14 : decode cX5_goodsOf 14 = .ok (.ireturn, 1) := by decide +kernel
theorem dX5_feeFor_0 : decode cX5_feeFor 0 = .ok (.iload_n 2, 1) := by decide +kernel
theorem dX5_feeFor_1 : decode cX5_feeFor 1 = .ok (.aload_n 0, 1) := by decide +kernel
theorem dX5_feeFor_2 : decode cX5_feeFor 2 = .ok (.getfield 56, 3) := by decide +kernel
theorem dX5_feeFor_5 : decode cX5_feeFor 5 = .ok (.if_icmp .ge 21, 3) := by decide +kernel
theorem dX5_feeFor_8 : decode cX5_feeFor 8 = .ok (.aload_n 0, 1) := by decide +kernel
theorem dX5_feeFor_9 : decode cX5_feeFor 9 = .ok (.getfield 12, 3) := by decide +kernel
theorem dX5_feeFor_12 : decode cX5_feeFor 12 = .ok (.invokevirtual 177, 3) := by decide +kernel
theorem dX5_feeFor_15 : decode cX5_feeFor 15 = .ok (.ifCond .eq 11, 3) := by decide +kernel
theorem dX5_feeFor_18 : decode cX5_feeFor 18 = .ok (.aload_n 0, 1) := by decide +kernel
theorem dX5_feeFor_19 : decode cX5_feeFor 19 = .ok (.iload_n 1, 1) := by decide +kernel
theorem dX5_feeFor_20 : decode cX5_feeFor 20 = .ok (.invokevirtual 272, 3) := by decide +kernel
theorem dX5_feeFor_23 : decode cX5_feeFor 23 = .ok (.ifCond .eq 5, 3) := by decide +kernel
theorem dX5_feeFor_26 : decode cX5_feeFor 26 = .ok (.iconst 0, 1) := by decide +kernel
theorem dX5_feeFor_27 : decode cX5_feeFor 27 = .ok (.ireturn, 1) := by decide +kernel
theorem dX5_feeFor_28 : decode cX5_feeFor 28 = .ok (.aload_n 0, 1) := by decide +kernel
theorem dX5_feeFor_29 : decode cX5_feeFor 29 = .ok (.getfield 52, 3) := by decide +kernel
theorem dX5_feeFor_32 : decode cX5_feeFor 32 = .ok (.ireturn, 1) := by decide +kernel
theorem dX5_hasFreight_0 : decode cX5_hasFreight 0 = .ok (.iconst 0, 1) := by decide +kernel
theorem dX5_hasFreight_1 : decode cX5_hasFreight 1 = .ok (.istore_n 2, 1) := by decide +kernel
theorem dX5_hasFreight_2 : decode cX5_hasFreight 2 = .ok (.iload_n 2, 1) := by decide +kernel
theorem dX5_hasFreight_3 : decode cX5_hasFreight 3 = .ok (.aload_n 0, 1) := by decide +kernel
theorem dX5_hasFreight_4 : decode cX5_hasFreight 4 = .ok (.getfield 46, 3) := by decide +kernel
theorem dX5_hasFreight_7 : decode cX5_hasFreight 7 = .ok (.if_icmp .ge 32, 3) := by decide +kernel
theorem dX5_hasFreight_10 : decode cX5_hasFreight 10 = .ok (.iload_n 1, 1) := by decide +kernel
theorem dX5_hasFreight_11 : decode cX5_hasFreight 11 = .ok (.iload_n 2, 1) := by decide +kernel
theorem dX5_hasFreight_12 : decode cX5_hasFreight 12 = .ok (.invokestatic 249, 3) := by decide +kernel
theorem dX5_hasFreight_15 : decode cX5_hasFreight 15 = .ok (.ifCond .eq 18, 3) := by decide +kernel
theorem dX5_hasFreight_18 : decode cX5_hasFreight 18 = .ok (.aload_n 0, 1) := by decide +kernel
theorem dX5_hasFreight_19 : decode cX5_hasFreight 19 = .ok (.getfield 18, 3) := by decide +kernel
theorem dX5_hasFreight_22 : decode cX5_hasFreight 22 = .ok (.iload_n 2, 1) := by decide +kernel
theorem dX5_hasFreight_23 : decode cX5_hasFreight 23 = .ok (.aaload, 1) := by decide +kernel
theorem dX5_hasFreight_24 : decode cX5_hasFreight 24 = .ok (.getfield 275, 3) := by decide +kernel
theorem dX5_hasFreight_27 : decode cX5_hasFreight 27 = .ok (.iconst 3, 1) := by decide +kernel
theorem dX5_hasFreight_28 : decode cX5_hasFreight 28 = .ok (.if_icmp .ne 5, 3) := by decide +kernel
theorem dX5_hasFreight_31 : decode cX5_hasFreight 31 = .ok (.iconst 1, 1) := by decide +kernel
theorem dX5_hasFreight_32 : decode cX5_hasFreight 32 = .ok (.ireturn, 1) := by decide +kernel
theorem dX5_hasFreight_33 : decode cX5_hasFreight 33 = .ok (.iinc 2 1, 3) := by decide +kernel
theorem dX5_hasFreight_36 : decode cX5_hasFreight 36 = .ok (.goto (-34), 3) := by decide +kernel
theorem dX5_hasFreight_39 : decode cX5_hasFreight 39 = .ok (.iconst 0, 1) := by decide +kernel
theorem dX5_hasFreight_40 : decode cX5_hasFreight 40 = .ok (.ireturn, 1) := by decide +kernel
theorem dX5_searchSets_0 : decode cX5_searchSets 0 = .ok (.aload_n 0, 1) := by decide +kernel
theorem dX5_searchSets_1 : decode cX5_searchSets 1 = .ok (.getfield 38, 3) := by decide +kernel
theorem dX5_searchSets_4 : decode cX5_searchSets 4 = .ok (.iload_n 1, 1) := by decide +kernel
theorem dX5_searchSets_5 : decode cX5_searchSets 5 = .ok (.aload_n 0, 1) := by decide +kernel
theorem dX5_searchSets_6 : decode cX5_searchSets 6 = .ok (.invokevirtual 278, 3) := by decide +kernel
theorem dX5_searchSets_9 : decode cX5_searchSets 9 = .ok (.invokevirtual 281, 3) := by decide +kernel
theorem dX5_searchSets_12 : decode cX5_searchSets 12 = .ok (.aload_n 0, 1) := by decide +kernel
theorem dX5_searchSets_13 : decode cX5_searchSets 13 = .ok (.getfield 31, 3) := by decide +kernel
theorem dX5_searchSets_16 : decode cX5_searchSets 16 = .ok (.aload_n 0, 1) := by decide +kernel
theorem dX5_searchSets_17 : decode cX5_searchSets 17 = .ok (.getfield 12, 3) := by decide +kernel
theorem dX5_searchSets_20 : decode cX5_searchSets 20 = .ok (.invokevirtual 261, 3) := by decide +kernel
theorem dX5_searchSets_23 : decode cX5_searchSets 23 = .ok (.aload_n 0, 1) := by decide +kernel
theorem dX5_searchSets_24 : decode cX5_searchSets 24 = .ok (.iconst 0, 1) := by decide +kernel
theorem dX5_searchSets_25 : decode cX5_searchSets 25 = .ok (.iconst 0, 1) := by decide +kernel
theorem dX5_searchSets_26 : decode cX5_searchSets 26 = .ok (.iconst 0, 1) := by decide +kernel
theorem dX5_searchSets_27 : decode cX5_searchSets 27 = .ok (.invokestatic 285, 3) := by decide +kernel
theorem dX5_searchSets_30 : decode cX5_searchSets 30 = .ok (.return_, 1) := by decide +kernel
theorem dX5_extend_0 : decode cX5_extend 0 = .ok (.aload_n 0, 1) := by decide +kernel
theorem dX5_extend_1 : decode cX5_extend 1 = .ok (.getfield 31, 3) := by decide +kernel
theorem dX5_extend_4 : decode cX5_extend 4 = .ok (.iload_n 3, 1) := by decide +kernel
theorem dX5_extend_5 : decode cX5_extend 5 = .ok (.invokevirtual 269, 3) := by decide +kernel
theorem dX5_extend_8 : decode cX5_extend 8 = .ok (.istore 4, 2) := by decide +kernel
theorem dX5_extend_10 : decode cX5_extend 10 = .ok (.aload_n 0, 1) := by decide +kernel
theorem dX5_extend_11 : decode cX5_extend 11 = .ok (.getfield 38, 3) := by decide +kernel
theorem dX5_extend_14 : decode cX5_extend 14 = .ok (.iload_n 1, 1) := by decide +kernel
theorem dX5_extend_15 : decode cX5_extend 15 = .ok (.iload 4, 2) := by decide +kernel
theorem dX5_extend_17 : decode cX5_extend 17 = .ok (.aload_n 0, 1) := by decide +kernel
theorem dX5_extend_18 : decode cX5_extend 18 = .ok (.iload_n 1, 1) := by decide +kernel
theorem dX5_extend_19 : decode cX5_extend 19 = .ok (.iload 4, 2) := by decide +kernel
theorem dX5_extend_21 : decode cX5_extend 21 = .ok (.invokevirtual 155, 3) := by decide +kernel
theorem dX5_extend_24 : decode cX5_extend 24 = .ok (.iadd, 1) := by decide +kernel
theorem dX5_extend_25 : decode cX5_extend 25 = .ok (.invokevirtual 289, 3) := by decide +kernel
theorem dX5_extend_28 : decode cX5_extend 28 = .ok (.iload_n 3, 1) := by decide +kernel
theorem dX5_extend_29 : decode cX5_extend 29 = .ok (.bipush 8, 2) := by decide +kernel
theorem dX5_extend_31 : decode cX5_extend 31 = .ok (.if_icmp .lt 4, 3) := by decide +kernel
theorem dX5_extend_34 : decode cX5_extend 34 = .ok (.return_, 1) := by decide +kernel
theorem dX5_extend_35 : decode cX5_extend 35 = .ok (.iload_n 2, 1) := by decide +kernel
theorem dX5_extend_36 : decode cX5_extend 36 = .ok (.istore 5, 2) := by decide +kernel
theorem dX5_extend_38 : decode cX5_extend 38 = .ok (.iload 5, 2) := by decide +kernel
theorem dX5_extend_40 : decode cX5_extend 40 = .ok (.aload_n 0, 1) := by decide +kernel
theorem dX5_extend_41 : decode cX5_extend 41 = .ok (.getfield 46, 3) := by decide +kernel
theorem dX5_extend_44 : decode cX5_extend 44 = .ok (.if_icmp .ge 79, 3) := by decide +kernel
theorem dX5_extend_47 : decode cX5_extend 47 = .ok (.aload_n 0, 1) := by decide +kernel
theorem dX5_extend_48 : decode cX5_extend 48 = .ok (.getfield 38, 3) := by decide +kernel
theorem dX5_extend_51 : decode cX5_extend 51 = .ok (.getfield 292, 3) := by decide +kernel
theorem dX5_extend_54 : decode cX5_extend 54 = .ok (.iload 5, 2) := by decide +kernel
theorem dX5_extend_56 : decode cX5_extend 56 = .ok (.invokestatic 249, 3) := by decide +kernel
theorem dX5_extend_59 : decode cX5_extend 59 = .ok (.ifCond .eq 58, 3) := by decide +kernel
theorem dX5_extend_62 : decode cX5_extend 62 = .ok (.aload_n 0, 1) := by decide +kernel
theorem dX5_extend_63 : decode cX5_extend 63 = .ok (.iload 5, 2) := by decide +kernel
theorem dX5_extend_65 : decode cX5_extend 65 = .ok (.iload_n 1, 1) := by decide +kernel
theorem dX5_extend_66 : decode cX5_extend 66 = .ok (.invokevirtual 252, 3) := by decide +kernel
theorem dX5_extend_69 : decode cX5_extend 69 = .ok (.ifCond .eq 48, 3) := by decide +kernel
theorem dX5_extend_72 : decode cX5_extend 72 = .ok (.aload_n 0, 1) := by decide +kernel
theorem dX5_extend_73 : decode cX5_extend 73 = .ok (.getfield 31, 3) := by decide +kernel
theorem dX5_extend_76 : decode cX5_extend 76 = .ok (.iload_n 3, 1) := by decide +kernel
theorem dX5_extend_77 : decode cX5_extend 77 = .ok (.iload_n 3, 1) := by decide +kernel
theorem dX5_extend_78 : decode cX5_extend 78 = .ok (.iconst 1, 1) := by decide +kernel
theorem dX5_extend_79 : decode cX5_extend 79 = .ok (.iadd, 1) := by decide +kernel
theorem dX5_extend_80 : decode cX5_extend 80 = .ok (.invokevirtual 295, 3) := by decide +kernel
theorem dX5_extend_83 : decode cX5_extend 83 = .ok (.aload_n 0, 1) := by decide +kernel
theorem dX5_extend_84 : decode cX5_extend 84 = .ok (.getfield 31, 3) := by decide +kernel
theorem dX5_extend_87 : decode cX5_extend 87 = .ok (.aload_n 0, 1) := by decide +kernel
theorem dX5_extend_88 : decode cX5_extend 88 = .ok (.getfield 18, 3) := by decide +kernel
theorem dX5_extend_91 : decode cX5_extend 91 = .ok (.iload 5, 2) := by decide +kernel
theorem dX5_extend_93 : decode cX5_extend 93 = .ok (.aaload, 1) := by decide +kernel
theorem dX5_extend_94 : decode cX5_extend 94 = .ok (.iload_n 3, 1) := by decide +kernel
theorem dX5_extend_95 : decode cX5_extend 95 = .ok (.iconst 1, 1) := by decide +kernel
theorem dX5_extend_96 : decode cX5_extend 96 = .ok (.iadd, 1) := by decide +kernel
theorem dX5_extend_97 : decode cX5_extend 97 = .ok (.invokevirtual 265, 3) := by decide +kernel
theorem dX5_extend_100 : decode cX5_extend 100 = .ok (.aload_n 0, 1) := by decide +kernel
theorem dX5_extend_101 : decode cX5_extend 101 = .ok (.iload_n 1, 1) := by decide +kernel
theorem dX5_extend_102 : decode cX5_extend 102 = .ok (.iconst 1, 1) := by decide +kernel
theorem dX5_extend_103 : decode cX5_extend 103 = .ok (.iload 5, 2) := by decide +kernel
theorem dX5_extend_105 : decode cX5_extend 105 = .ok (.ishl, 1) := by decide +kernel
theorem dX5_extend_106 : decode cX5_extend 106 = .ok (.ior, 1) := by decide +kernel
theorem dX5_extend_107 : decode cX5_extend 107 = .ok (.iload 5, 2) := by decide +kernel
theorem dX5_extend_109 : decode cX5_extend 109 = .ok (.iconst 1, 1) := by decide +kernel
theorem dX5_extend_110 : decode cX5_extend 110 = .ok (.iadd, 1) := by decide +kernel
theorem dX5_extend_111 : decode cX5_extend 111 = .ok (.iload_n 3, 1) := by decide +kernel
theorem dX5_extend_112 : decode cX5_extend 112 = .ok (.iconst 1, 1) := by decide +kernel
theorem dX5_extend_113 : decode cX5_extend 113 = .ok (.iadd, 1) := by decide +kernel
theorem dX5_extend_114 : decode cX5_extend 114 = .ok (.invokestatic 285, 3) := by decide +kernel
theorem dX5_extend_117 : decode cX5_extend 117 = .ok (.iinc 5 1, 3) := by decide +kernel
theorem dX5_extend_120 : decode cX5_extend 120 = .ok (.goto (-82), 3) := by decide +kernel
theorem dX5_extend_123 : decode cX5_extend 123 = .ok (.return_, 1) := by decide +kernel
theorem dX5_mix_0 : decode cX5_mix 0 = .ok (.lload_n 0, 1) := by decide +kernel
theorem dX5_mix_1 : decode cX5_mix 1 = .ok (.ldc2_w 298, 3) := by decide +kernel
theorem dX5_mix_4 : decode cX5_mix 4 = .ok (.lmul, 1) := by decide +kernel
theorem dX5_mix_5 : decode cX5_mix 5 = .ok (.iload_n 2, 1) := by decide +kernel
theorem dX5_mix_6 : decode cX5_mix 6 = .ok (.i2l, 1) := by decide +kernel
theorem dX5_mix_7 : decode cX5_mix 7 = .ok (.ladd, 1) := by decide +kernel
theorem dX5_mix_8 : decode cX5_mix 8 = .ok (.lreturn, 1) := by decide +kernel
theorem dX5_digestArticles_0 : decode cX5_digestArticles 0 = .ok (.lload_n 1, 1) := by decide +kernel
theorem dX5_digestArticles_1 : decode cX5_digestArticles 1 = .ok (.aload_n 0, 1) := by decide +kernel
theorem dX5_digestArticles_2 : decode cX5_digestArticles 2 = .ok (.getfield 42, 3) := by decide +kernel
theorem dX5_digestArticles_5 : decode cX5_digestArticles 5 = .ok (.invokestatic 226, 3) := by decide +kernel
theorem dX5_digestArticles_8 : decode cX5_digestArticles 8 = .ok (.lstore_n 3, 1) := by decide +kernel
theorem dX5_digestArticles_9 : decode cX5_digestArticles 9 = .ok (.iconst 0, 1) := by decide +kernel
theorem dX5_digestArticles_10 : decode cX5_digestArticles 10 = .ok (.istore 5, 2) := by decide +kernel
theorem dX5_digestArticles_12 : decode cX5_digestArticles 12 = .ok (.iload 5, 2) := by decide +kernel
theorem dX5_digestArticles_14 : decode cX5_digestArticles 14 = .ok (.aload_n 0, 1) := by decide +kernel
theorem dX5_digestArticles_15 : decode cX5_digestArticles 15 = .ok (.getfield 42, 3) := by decide +kernel
theorem dX5_digestArticles_18 : decode cX5_digestArticles 18 = .ok (.if_icmp .ge 54, 3) := by decide +kernel
theorem dX5_digestArticles_21 : decode cX5_digestArticles 21 = .ok (.lload_n 3, 1) := by decide +kernel
theorem dX5_digestArticles_22 : decode cX5_digestArticles 22 = .ok (.aload_n 0, 1) := by decide +kernel
theorem dX5_digestArticles_23 : decode cX5_digestArticles 23 = .ok (.getfield 12, 3) := by decide +kernel
theorem dX5_digestArticles_26 : decode cX5_digestArticles 26 = .ok (.getfield 77, 3) := by decide +kernel
theorem dX5_digestArticles_29 : decode cX5_digestArticles 29 = .ok (.iload 5, 2) := by decide +kernel
theorem dX5_digestArticles_31 : decode cX5_digestArticles 31 = .ok (.iaload, 1) := by decide +kernel
theorem dX5_digestArticles_32 : decode cX5_digestArticles 32 = .ok (.invokestatic 226, 3) := by decide +kernel
theorem dX5_digestArticles_35 : decode cX5_digestArticles 35 = .ok (.lstore_n 3, 1) := by decide +kernel
theorem dX5_digestArticles_36 : decode cX5_digestArticles 36 = .ok (.lload_n 3, 1) := by decide +kernel
theorem dX5_digestArticles_37 : decode cX5_digestArticles 37 = .ok (.aload_n 0, 1) := by decide +kernel
theorem dX5_digestArticles_38 : decode cX5_digestArticles 38 = .ok (.getfield 12, 3) := by decide +kernel
theorem dX5_digestArticles_41 : decode cX5_digestArticles 41 = .ok (.getfield 81, 3) := by decide +kernel
theorem dX5_digestArticles_44 : decode cX5_digestArticles 44 = .ok (.iload 5, 2) := by decide +kernel
theorem dX5_digestArticles_46 : decode cX5_digestArticles 46 = .ok (.iaload, 1) := by decide +kernel
theorem dX5_digestArticles_47 : decode cX5_digestArticles 47 = .ok (.invokestatic 226, 3) := by decide +kernel
theorem dX5_digestArticles_50 : decode cX5_digestArticles 50 = .ok (.lstore_n 3, 1) := by decide +kernel
theorem dX5_digestArticles_51 : decode cX5_digestArticles 51 = .ok (.lload_n 3, 1) := by decide +kernel
theorem dX5_digestArticles_52 : decode cX5_digestArticles 52 = .ok (.aload_n 0, 1) := by decide +kernel
theorem dX5_digestArticles_53 : decode cX5_digestArticles 53 = .ok (.getfield 12, 3) := by decide +kernel
theorem dX5_digestArticles_56 : decode cX5_digestArticles 56 = .ok (.getfield 89, 3) := by decide +kernel
theorem dX5_digestArticles_59 : decode cX5_digestArticles 59 = .ok (.iload 5, 2) := by decide +kernel
theorem dX5_digestArticles_61 : decode cX5_digestArticles 61 = .ok (.iaload, 1) := by decide +kernel
theorem dX5_digestArticles_62 : decode cX5_digestArticles 62 = .ok (.invokestatic 226, 3) := by decide +kernel
theorem dX5_digestArticles_65 : decode cX5_digestArticles 65 = .ok (.lstore_n 3, 1) := by decide +kernel
theorem dX5_digestArticles_66 : decode cX5_digestArticles 66 = .ok (.iinc 5 1, 3) := by decide +kernel
theorem dX5_digestArticles_69 : decode cX5_digestArticles 69 = .ok (.goto (-57), 3) := by decide +kernel
theorem dX5_digestArticles_72 : decode cX5_digestArticles 72 = .ok (.lload_n 3, 1) := by decide +kernel
theorem dX5_digestArticles_73 : decode cX5_digestArticles 73 = .ok (.lreturn, 1) := by decide +kernel
theorem dX5_digestCoupons_0 : decode cX5_digestCoupons 0 = .ok (.lload_n 1, 1) := by decide +kernel
theorem dX5_digestCoupons_1 : decode cX5_digestCoupons 1 = .ok (.aload_n 0, 1) := by decide +kernel
theorem dX5_digestCoupons_2 : decode cX5_digestCoupons 2 = .ok (.getfield 46, 3) := by decide +kernel
theorem dX5_digestCoupons_5 : decode cX5_digestCoupons 5 = .ok (.invokestatic 226, 3) := by decide +kernel
theorem dX5_digestCoupons_8 : decode cX5_digestCoupons 8 = .ok (.lstore_n 3, 1) := by decide +kernel
theorem dX5_digestCoupons_9 : decode cX5_digestCoupons 9 = .ok (.iconst 0, 1) := by decide +kernel
theorem dX5_digestCoupons_10 : decode cX5_digestCoupons 10 = .ok (.istore 5, 2) := by decide +kernel
theorem dX5_digestCoupons_12 : decode cX5_digestCoupons 12 = .ok (.iload 5, 2) := by decide +kernel
theorem dX5_digestCoupons_14 : decode cX5_digestCoupons 14 = .ok (.aload_n 0, 1) := by decide +kernel
theorem dX5_digestCoupons_15 : decode cX5_digestCoupons 15 = .ok (.getfield 46, 3) := by decide +kernel
theorem dX5_digestCoupons_18 : decode cX5_digestCoupons 18 = .ok (.if_icmp .ge 99, 3) := by decide +kernel
theorem dX5_digestCoupons_21 : decode cX5_digestCoupons 21 = .ok (.lload_n 3, 1) := by decide +kernel
theorem dX5_digestCoupons_22 : decode cX5_digestCoupons 22 = .ok (.aload_n 0, 1) := by decide +kernel
theorem dX5_digestCoupons_23 : decode cX5_digestCoupons 23 = .ok (.getfield 18, 3) := by decide +kernel
theorem dX5_digestCoupons_26 : decode cX5_digestCoupons 26 = .ok (.iload 5, 2) := by decide +kernel
theorem dX5_digestCoupons_28 : decode cX5_digestCoupons 28 = .ok (.aaload, 1) := by decide +kernel
theorem dX5_digestCoupons_29 : decode cX5_digestCoupons 29 = .ok (.getfield 275, 3) := by decide +kernel
theorem dX5_digestCoupons_32 : decode cX5_digestCoupons 32 = .ok (.invokestatic 226, 3) := by decide +kernel
theorem dX5_digestCoupons_35 : decode cX5_digestCoupons 35 = .ok (.lstore_n 3, 1) := by decide +kernel
theorem dX5_digestCoupons_36 : decode cX5_digestCoupons 36 = .ok (.lload_n 3, 1) := by decide +kernel
theorem dX5_digestCoupons_37 : decode cX5_digestCoupons 37 = .ok (.aload_n 0, 1) := by decide +kernel
theorem dX5_digestCoupons_38 : decode cX5_digestCoupons 38 = .ok (.getfield 18, 3) := by decide +kernel
theorem dX5_digestCoupons_41 : decode cX5_digestCoupons 41 = .ok (.iload 5, 2) := by decide +kernel
theorem dX5_digestCoupons_43 : decode cX5_digestCoupons 43 = .ok (.aaload, 1) := by decide +kernel
theorem dX5_digestCoupons_44 : decode cX5_digestCoupons 44 = .ok (.getfield 300, 3) := by decide +kernel
theorem dX5_digestCoupons_47 : decode cX5_digestCoupons 47 = .ok (.invokestatic 226, 3) := by decide +kernel
theorem dX5_digestCoupons_50 : decode cX5_digestCoupons 50 = .ok (.lstore_n 3, 1) := by decide +kernel
theorem dX5_digestCoupons_51 : decode cX5_digestCoupons 51 = .ok (.lload_n 3, 1) := by decide +kernel
theorem dX5_digestCoupons_52 : decode cX5_digestCoupons 52 = .ok (.aload_n 0, 1) := by decide +kernel
theorem dX5_digestCoupons_53 : decode cX5_digestCoupons 53 = .ok (.getfield 18, 3) := by decide +kernel
theorem dX5_digestCoupons_56 : decode cX5_digestCoupons 56 = .ok (.iload 5, 2) := by decide +kernel
theorem dX5_digestCoupons_58 : decode cX5_digestCoupons 58 = .ok (.aaload, 1) := by decide +kernel
theorem dX5_digestCoupons_59 : decode cX5_digestCoupons 59 = .ok (.getfield 126, 3) := by decide +kernel
theorem dX5_digestCoupons_62 : decode cX5_digestCoupons 62 = .ok (.invokestatic 226, 3) := by decide +kernel
theorem dX5_digestCoupons_65 : decode cX5_digestCoupons 65 = .ok (.lstore_n 3, 1) := by decide +kernel
theorem dX5_digestCoupons_66 : decode cX5_digestCoupons 66 = .ok (.lload_n 3, 1) := by decide +kernel
theorem dX5_digestCoupons_67 : decode cX5_digestCoupons 67 = .ok (.aload_n 0, 1) := by decide +kernel
theorem dX5_digestCoupons_68 : decode cX5_digestCoupons 68 = .ok (.getfield 18, 3) := by decide +kernel
theorem dX5_digestCoupons_71 : decode cX5_digestCoupons 71 = .ok (.iload 5, 2) := by decide +kernel
theorem dX5_digestCoupons_73 : decode cX5_digestCoupons 73 = .ok (.aaload, 1) := by decide +kernel
theorem dX5_digestCoupons_74 : decode cX5_digestCoupons 74 = .ok (.getfield 132, 3) := by decide +kernel
theorem dX5_digestCoupons_77 : decode cX5_digestCoupons 77 = .ok (.invokestatic 226, 3) := by decide +kernel
theorem dX5_digestCoupons_80 : decode cX5_digestCoupons 80 = .ok (.lstore_n 3, 1) := by decide +kernel
theorem dX5_digestCoupons_81 : decode cX5_digestCoupons 81 = .ok (.lload_n 3, 1) := by decide +kernel
theorem dX5_digestCoupons_82 : decode cX5_digestCoupons 82 = .ok (.aload_n 0, 1) := by decide +kernel
theorem dX5_digestCoupons_83 : decode cX5_digestCoupons 83 = .ok (.getfield 18, 3) := by decide +kernel
theorem dX5_digestCoupons_86 : decode cX5_digestCoupons 86 = .ok (.iload 5, 2) := by decide +kernel
theorem dX5_digestCoupons_88 : decode cX5_digestCoupons 88 = .ok (.aaload, 1) := by decide +kernel
theorem dX5_digestCoupons_89 : decode cX5_digestCoupons 89 = .ok (.getfield 255, 3) := by decide +kernel
theorem dX5_digestCoupons_92 : decode cX5_digestCoupons 92 = .ok (.invokestatic 226, 3) := by decide +kernel
theorem dX5_digestCoupons_95 : decode cX5_digestCoupons 95 = .ok (.lstore_n 3, 1) := by decide +kernel
theorem dX5_digestCoupons_96 : decode cX5_digestCoupons 96 = .ok (.lload_n 3, 1) := by decide +kernel
theorem dX5_digestCoupons_97 : decode cX5_digestCoupons 97 = .ok (.aload_n 0, 1) := by decide +kernel
theorem dX5_digestCoupons_98 : decode cX5_digestCoupons 98 = .ok (.getfield 18, 3) := by decide +kernel
theorem dX5_digestCoupons_101 : decode cX5_digestCoupons 101 = .ok (.iload 5, 2) := by decide +kernel
theorem dX5_digestCoupons_103 : decode cX5_digestCoupons 103 = .ok (.aaload, 1) := by decide +kernel
theorem dX5_digestCoupons_104 : decode cX5_digestCoupons 104 = .ok (.getfield 123, 3) := by decide +kernel
theorem dX5_digestCoupons_107 : decode cX5_digestCoupons 107 = .ok (.invokestatic 226, 3) := by decide +kernel
theorem dX5_digestCoupons_110 : decode cX5_digestCoupons 110 = .ok (.lstore_n 3, 1) := by decide +kernel
theorem dX5_digestCoupons_111 : decode cX5_digestCoupons 111 = .ok (.iinc 5 1, 3) := by decide +kernel
theorem dX5_digestCoupons_114 : decode cX5_digestCoupons 114 = .ok (.goto (-102), 3) := by decide +kernel
theorem dX5_digestCoupons_117 : decode cX5_digestCoupons 117 = .ok (.lload_n 3, 1) := by decide +kernel
theorem dX5_digestCoupons_118 : decode cX5_digestCoupons 118 = .ok (.lreturn, 1) := by decide +kernel
theorem dX5_digestOrders_0 : decode cX5_digestOrders 0 = .ok (.lload_n 1, 1) := by decide +kernel
theorem dX5_digestOrders_1 : decode cX5_digestOrders 1 = .ok (.aload_n 0, 1) := by decide +kernel
theorem dX5_digestOrders_2 : decode cX5_digestOrders 2 = .ok (.getfield 49, 3) := by decide +kernel
theorem dX5_digestOrders_5 : decode cX5_digestOrders 5 = .ok (.invokestatic 226, 3) := by decide +kernel
theorem dX5_digestOrders_8 : decode cX5_digestOrders 8 = .ok (.lstore_n 3, 1) := by decide +kernel
theorem dX5_digestOrders_9 : decode cX5_digestOrders 9 = .ok (.iconst 0, 1) := by decide +kernel
theorem dX5_digestOrders_10 : decode cX5_digestOrders 10 = .ok (.istore 5, 2) := by decide +kernel
theorem dX5_digestOrders_12 : decode cX5_digestOrders 12 = .ok (.iload 5, 2) := by decide +kernel
theorem dX5_digestOrders_14 : decode cX5_digestOrders 14 = .ok (.aload_n 0, 1) := by decide +kernel
theorem dX5_digestOrders_15 : decode cX5_digestOrders 15 = .ok (.getfield 49, 3) := by decide +kernel
theorem dX5_digestOrders_18 : decode cX5_digestOrders 18 = .ok (.if_icmp .ge 41, 3) := by decide +kernel
theorem dX5_digestOrders_21 : decode cX5_digestOrders 21 = .ok (.iconst 0, 1) := by decide +kernel
theorem dX5_digestOrders_22 : decode cX5_digestOrders 22 = .ok (.istore 6, 2) := by decide +kernel
theorem dX5_digestOrders_24 : decode cX5_digestOrders 24 = .ok (.iload 6, 2) := by decide +kernel
theorem dX5_digestOrders_26 : decode cX5_digestOrders 26 = .ok (.iconst 5, 1) := by decide +kernel
theorem dX5_digestOrders_27 : decode cX5_digestOrders 27 = .ok (.if_icmp .ge 26, 3) := by decide +kernel
theorem dX5_digestOrders_30 : decode cX5_digestOrders 30 = .ok (.lload_n 3, 1) := by decide +kernel
theorem dX5_digestOrders_31 : decode cX5_digestOrders 31 = .ok (.aload_n 0, 1) := by decide +kernel
theorem dX5_digestOrders_32 : decode cX5_digestOrders 32 = .ok (.getfield 24, 3) := by decide +kernel
theorem dX5_digestOrders_35 : decode cX5_digestOrders 35 = .ok (.iload 5, 2) := by decide +kernel
theorem dX5_digestOrders_37 : decode cX5_digestOrders 37 = .ok (.aaload, 1) := by decide +kernel
theorem dX5_digestOrders_38 : decode cX5_digestOrders 38 = .ok (.iload 6, 2) := by decide +kernel
theorem dX5_digestOrders_40 : decode cX5_digestOrders 40 = .ok (.invokevirtual 217, 3) := by decide +kernel
theorem dX5_digestOrders_43 : decode cX5_digestOrders 43 = .ok (.invokestatic 226, 3) := by decide +kernel
theorem dX5_digestOrders_46 : decode cX5_digestOrders 46 = .ok (.lstore_n 3, 1) := by decide +kernel
theorem dX5_digestOrders_47 : decode cX5_digestOrders 47 = .ok (.iinc 6 1, 3) := by decide +kernel
theorem dX5_digestOrders_50 : decode cX5_digestOrders 50 = .ok (.goto (-26), 3) := by decide +kernel
theorem dX5_digestOrders_53 : decode cX5_digestOrders 53 = .ok (.iinc 5 1, 3) := by decide +kernel
theorem dX5_digestOrders_56 : decode cX5_digestOrders 56 = .ok (.goto (-44), 3) := by decide +kernel
theorem dX5_digestOrders_59 : decode cX5_digestOrders 59 = .ok (.lload_n 3, 1) := by decide +kernel
theorem dX5_digestOrders_60 : decode cX5_digestOrders 60 = .ok (.lreturn, 1) := by decide +kernel
theorem dX6_init_0 : decode cX6_init 0 = .ok (.aload_n 0, 1) := by decide +kernel
theorem dX6_init_1 : decode cX6_init 1 = .ok (.invokespecial 1, 3) := by decide +kernel
theorem dX6_init_4 : decode cX6_init 4 = .ok (.aload_n 0, 1) := by decide +kernel
theorem dX6_init_5 : decode cX6_init 5 = .ok (.bipush 10, 2) := by decide +kernel
theorem dX6_init_7 : decode cX6_init 7 = .ok (.newarray .int, 2) := by decide +kernel
theorem dX6_init_9 : decode cX6_init 9 = .ok (.putfield 9, 3) := by decide +kernel
theorem dX6_init_12 : decode cX6_init 12 = .ok (.aload_n 0, 1) := by decide +kernel
theorem dX6_init_13 : decode cX6_init 13 = .ok (.sipush 130, 3) := by decide +kernel
theorem dX6_init_16 : decode cX6_init 16 = .ok (.newarray .int, 2) := by decide +kernel
theorem dX6_init_18 : decode cX6_init 18 = .ok (.putfield 13, 3) := by decide +kernel
theorem dX6_init_21 : decode cX6_init 21 = .ok (.aload_n 0, 1) := by decide +kernel
theorem dX6_init_22 : decode cX6_init 22 = .ok (.sipush 130, 3) := by decide +kernel
theorem dX6_init_25 : decode cX6_init 25 = .ok (.newarray .int, 2) := by decide +kernel
theorem dX6_init_27 : decode cX6_init 27 = .ok (.putfield 16, 3) := by decide +kernel
theorem dX6_init_30 : decode cX6_init 30 = .ok (.aload_n 0, 1) := by decide +kernel
theorem dX6_init_31 : decode cX6_init 31 = .ok (.ldc 19, 2) := by decide +kernel
theorem dX6_init_33 : decode cX6_init 33 = .ok (.putfield 20, 3) := by decide +kernel
theorem dX6_init_36 : decode cX6_init 36 = .ok (.aload_n 0, 1) := by decide +kernel
theorem dX6_init_37 : decode cX6_init 37 = .ok (.bipush 48, 2) := by decide +kernel
theorem dX6_init_39 : decode cX6_init 39 = .ok (.newarray .int, 2) := by decide +kernel
theorem dX6_init_41 : decode cX6_init 41 = .ok (.putfield 24, 3) := by decide +kernel
theorem dX6_init_44 : decode cX6_init 44 = .ok (.aload_n 0, 1) := by decide +kernel
theorem dX6_init_45 : decode cX6_init 45 = .ok (.bipush 12, 2) := by decide +kernel
theorem dX6_init_47 : decode cX6_init 47 = .ok (.newarray .int, 2) := by decide +kernel
theorem dX6_init_49 : decode cX6_init 49 = .ok (.putfield 27, 3) := by decide +kernel
theorem dX6_init_52 : decode cX6_init 52 = .ok (.aload_n 0, 1) := by decide +kernel
theorem dX6_init_53 : decode cX6_init 53 = .ok (.bipush 12, 2) := by decide +kernel
theorem dX6_init_55 : decode cX6_init 55 = .ok (.newarray .int, 2) := by decide +kernel
theorem dX6_init_57 : decode cX6_init 57 = .ok (.putfield 30, 3) := by decide +kernel
theorem dX6_init_60 : decode cX6_init 60 = .ok (.aload_n 0, 1) := by decide +kernel
theorem dX6_init_61 : decode cX6_init 61 = .ok (.bipush 12, 2) := by decide +kernel
theorem dX6_init_63 : decode cX6_init 63 = .ok (.newarray .int, 2) := by decide +kernel
theorem dX6_init_65 : decode cX6_init 65 = .ok (.putfield 33, 3) := by decide +kernel
theorem dX6_init_68 : decode cX6_init 68 = .ok (.aload_n 0, 1) := by decide +kernel
theorem dX6_init_69 : decode cX6_init 69 = .ok (.bipush 60, 2) := by decide +kernel
theorem dX6_init_71 : decode cX6_init 71 = .ok (.newarray .int, 2) := by decide +kernel
theorem dX6_init_73 : decode cX6_init 73 = .ok (.putfield 36, 3) := by decide +kernel
theorem dX6_init_76 : decode cX6_init 76 = .ok (.aload_n 0, 1) := by decide +kernel
theorem dX6_init_77 : decode cX6_init 77 = .ok (.bipush 60, 2) := by decide +kernel
theorem dX6_init_79 : decode cX6_init 79 = .ok (.newarray .int, 2) := by decide +kernel
theorem dX6_init_81 : decode cX6_init 81 = .ok (.putfield 39, 3) := by decide +kernel
theorem dX6_init_84 : decode cX6_init 84 = .ok (.return_, 1) := by decide +kernel
theorem dX6_thrown_0 : decode cX6_thrown 0 = .ok (.aload_n 0, 1) := by decide +kernel
theorem dX6_thrown_1 : decode cX6_thrown 1 = .ok (.getfield 42, 3) := by decide +kernel
theorem dX6_thrown_4 : decode cX6_thrown 4 = .ok (.ireturn, 1) := by decide +kernel
theorem dX6_fail_0 : decode cX6_fail 0 = .ok (.aload_n 0, 1) := by decide +kernel
theorem dX6_fail_1 : decode cX6_fail 1 = .ok (.iload_n 1, 1) := by decide +kernel
theorem dX6_fail_2 : decode cX6_fail 2 = .ok (.putfield 42, 3) := by decide +kernel
theorem dX6_fail_5 : decode cX6_fail 5 = .ok (.iconst 0, 1) := by decide +kernel
theorem dX6_fail_6 : decode cX6_fail 6 = .ok (.ireturn, 1) := by decide +kernel
theorem dX6_isIn_0 : decode cX6_isIn 0 = .ok (.iload_n 0, 1) := by decide +kernel
theorem dX6_isIn_1 : decode cX6_isIn 1 = .ok (.iload_n 1, 1) := by decide +kernel
theorem dX6_isIn_2 : decode cX6_isIn 2 = .ok (.if_icmp .lt 12, 3) := by decide +kernel
theorem dX6_isIn_5 : decode cX6_isIn 5 = .ok (.iload_n 0, 1) := by decide +kernel
theorem dX6_isIn_6 : decode cX6_isIn 6 = .ok (.iload_n 2, 1) := by decide +kernel
theorem dX6_isIn_7 : decode cX6_isIn 7 = .ok (.if_icmp .gt 7, 3) := by decide +kernel
theorem dX6_isIn_10 : decode cX6_isIn 10 = .ok (.iconst 1, 1) := by decide +kernel
theorem dX6_isIn_11 : decode cX6_isIn 11 = .ok (.goto 4, 3) := by decide +kernel
theorem dX6_isIn_14 : decode cX6_isIn 14 = .ok (.iconst 0, 1) := by decide +kernel
theorem dX6_isIn_15 : decode cX6_isIn 15 = .ok (.ireturn, 1) := by decide +kernel
theorem dX6_isArticle_0 : decode cX6_isArticle 0 = .ok (.iload_n 1, 1) := by decide +kernel
theorem dX6_isArticle_1 : decode cX6_isArticle 1 = .ok (.iconst 0, 1) := by decide +kernel
theorem dX6_isArticle_2 : decode cX6_isArticle 2 = .ok (.aload_n 0, 1) := by decide +kernel
theorem dX6_isArticle_3 : decode cX6_isArticle 3 = .ok (.getfield 45, 3) := by decide +kernel
theorem dX6_isArticle_6 : decode cX6_isArticle 6 = .ok (.iconst 1, 1) := by decide +kernel
theorem dX6_isArticle_7 : decode cX6_isArticle 7 = .ok (.isub, 1) := by decide +kernel
theorem dX6_isArticle_8 : decode cX6_isArticle 8 = .ok (.invokestatic 48, 3) := by decide +kernel
theorem dX6_isArticle_11 : decode cX6_isArticle 11 = .ok (.ireturn, 1) := by decide +kernel
theorem dX6_isCoupon_0 : decode cX6_isCoupon 0 = .ok (.iload_n 1, 1) := by decide +kernel
theorem dX6_isCoupon_1 : decode cX6_isCoupon 1 = .ok (.iconst 0, 1) := by decide +kernel
theorem dX6_isCoupon_2 : decode cX6_isCoupon 2 = .ok (.aload_n 0, 1) := by decide +kernel
theorem dX6_isCoupon_3 : decode cX6_isCoupon 3 = .ok (.getfield 52, 3) := by decide +kernel
theorem dX6_isCoupon_6 : decode cX6_isCoupon 6 = .ok (.iconst 1, 1) := by decide +kernel
theorem dX6_isCoupon_7 : decode cX6_isCoupon 7 = .ok (.isub, 1) := by decide +kernel
theorem dX6_isCoupon_8 : decode cX6_isCoupon 8 = .ok (.invokestatic 48, 3) := by decide +kernel
theorem dX6_isCoupon_11 : decode cX6_isCoupon 11 = .ok (.ireturn, 1) := by decide +kernel
theorem dX6_isOrder_0 : decode cX6_isOrder 0 = .ok (.iload_n 1, 1) := by decide +kernel
theorem dX6_isOrder_1 : decode cX6_isOrder 1 = .ok (.iconst 0, 1) := by decide +kernel
theorem dX6_isOrder_2 : decode cX6_isOrder 2 = .ok (.aload_n 0, 1) := by decide +kernel
theorem dX6_isOrder_3 : decode cX6_isOrder 3 = .ok (.getfield 55, 3) := by decide +kernel
theorem dX6_isOrder_6 : decode cX6_isOrder 6 = .ok (.iconst 1, 1) := by decide +kernel
theorem dX6_isOrder_7 : decode cX6_isOrder 7 = .ok (.isub, 1) := by decide +kernel
theorem dX6_isOrder_8 : decode cX6_isOrder 8 = .ok (.invokestatic 48, 3) := by decide +kernel
theorem dX6_isOrder_11 : decode cX6_isOrder 11 = .ok (.ireturn, 1) := by decide +kernel
theorem dX6_areCoupons_0 : decode cX6_areCoupons 0 = .ok (.iload_n 1, 1) := by decide +kernel
theorem dX6_areCoupons_1 : decode cX6_areCoupons 1 = .ok (.iconst 0, 1) := by decide +kernel
theorem dX6_areCoupons_2 : decode cX6_areCoupons 2 = .ok (.iconst 1, 1) := by decide +kernel
theorem dX6_areCoupons_3 : decode cX6_areCoupons 3 = .ok (.aload_n 0, 1) := by decide +kernel
theorem dX6_areCoupons_4 : decode cX6_areCoupons 4 = .ok (.getfield 52, 3) := by decide +kernel
theorem dX6_areCoupons_7 : decode cX6_areCoupons 7 = .ok (.ishl, 1) := by decide +kernel
theorem dX6_areCoupons_8 : decode cX6_areCoupons 8 = .ok (.iconst 1, 1) := by decide +kernel
theorem dX6_areCoupons_9 : decode cX6_areCoupons 9 = .ok (.isub, 1) := by decide +kernel
theorem dX6_areCoupons_10 : decode cX6_areCoupons 10 = .ok (.invokestatic 48, 3) := by decide +kernel
theorem dX6_areCoupons_13 : decode cX6_areCoupons 13 = .ok (.ireturn, 1) := by decide +kernel
theorem dX6_has_0 : decode cX6_has 0 = .ok (.iload_n 0, 1) := by decide +kernel
theorem dX6_has_1 : decode cX6_has 1 = .ok (.iload_n 1, 1) := by decide +kernel
theorem dX6_has_2 : decode cX6_has 2 = .ok (.ishr, 1) := by decide +kernel
theorem dX6_has_3 : decode cX6_has 3 = .ok (.iconst 1, 1) := by decide +kernel
theorem dX6_has_4 : decode cX6_has 4 = .ok (.iand, 1) := by decide +kernel
theorem dX6_has_5 : decode cX6_has 5 = .ok (.iconst 1, 1) := by decide +kernel
theorem dX6_has_6 : decode cX6_has 6 = .ok (.if_icmp .ne 7, 3) := by decide +kernel
theorem dX6_has_9 : decode cX6_has 9 = .ok (.iconst 1, 1) := by decide +kernel
theorem dX6_has_10 : decode cX6_has 10 = .ok (.goto 4, 3) := by decide +kernel
theorem dX6_has_13 : decode cX6_has 13 = .ok (.iconst 0, 1) := by decide +kernel
theorem dX6_has_14 : decode cX6_has 14 = .ok (.ireturn, 1) := by decide +kernel
theorem dX6_addArticle_0 : decode cX6_addArticle 0 = .ok (.aload_n 0, 1) := by decide +kernel
theorem dX6_addArticle_1 : decode cX6_addArticle 1 = .ok (.iconst 0, 1) := by decide +kernel
theorem dX6_addArticle_2 : decode cX6_addArticle 2 = .ok (.putfield 42, 3) := by decide +kernel
theorem dX6_addArticle_5 : decode cX6_addArticle 5 = .ok (.iload_n 1, 1) := by decide +kernel
theorem dX6_addArticle_6 : decode cX6_addArticle 6 = .ok (.iconst 1, 1) := by decide +kernel
theorem dX6_addArticle_7 : decode cX6_addArticle 7 = .ok (.sipush 10000, 3) := by decide +kernel
theorem dX6_addArticle_10 : decode cX6_addArticle 10 = .ok (.invokestatic 48, 3) := by decide +kernel
theorem dX6_addArticle_13 : decode cX6_addArticle 13 = .ok (.ifCond .eq 13, 3) := by decide +kernel
theorem dX6_addArticle_16 : decode cX6_addArticle 16 = .ok (.iload_n 2, 1) := by decide +kernel
theorem dX6_addArticle_17 : decode cX6_addArticle 17 = .ok (.iconst 0, 1) := by decide +kernel
theorem dX6_addArticle_18 : decode cX6_addArticle 18 = .ok (.bipush 7, 2) := by decide +kernel
theorem dX6_addArticle_20 : decode cX6_addArticle 20 = .ok (.invokestatic 48, 3) := by decide +kernel
theorem dX6_addArticle_23 : decode cX6_addArticle 23 = .ok (.ifCond .ne 9, 3) := by decide +kernel
theorem dX6_addArticle_26 : decode cX6_addArticle 26 = .ok (.aload_n 0, 1) := by decide +kernel
theorem dX6_addArticle_27 : decode cX6_addArticle 27 = .ok (.iconst 1, 1) := by decide +kernel
theorem dX6_addArticle_28 : decode cX6_addArticle 28 = .ok (.invokevirtual 58, 3) := by decide +kernel
theorem dX6_addArticle_31 : decode cX6_addArticle 31 = .ok (.ireturn, 1) := by decide +kernel
theorem dX6_addArticle_32 : decode cX6_addArticle 32 = .ok (.aload_n 0, 1) := by decide +kernel
theorem dX6_addArticle_33 : decode cX6_addArticle 33 = .ok (.getfield 45, 3) := by decide +kernel
theorem dX6_addArticle_36 : decode cX6_addArticle 36 = .ok (.bipush 10, 2) := by decide +kernel
theorem dX6_addArticle_38 : decode cX6_addArticle 38 = .ok (.if_icmp .ne 9, 3) := by decide +kernel
theorem dX6_addArticle_41 : decode cX6_addArticle 41 = .ok (.aload_n 0, 1) := by decide +kernel
theorem dX6_addArticle_42 : decode cX6_addArticle 42 = .ok (.iconst 2, 1) := by decide +kernel
theorem dX6_addArticle_43 : decode cX6_addArticle 43 = .ok (.invokevirtual 58, 3) := by decide +kernel
theorem dX6_addArticle_46 : decode cX6_addArticle 46 = .ok (.ireturn, 1) := by decide +kernel
theorem dX6_addArticle_47 : decode cX6_addArticle 47 = .ok (.aload_n 0, 1) := by decide +kernel
theorem dX6_addArticle_48 : decode cX6_addArticle 48 = .ok (.getfield 16, 3) := by decide +kernel
theorem dX6_addArticle_51 : decode cX6_addArticle 51 = .ok (.aload_n 0, 1) := by decide +kernel
theorem dX6_addArticle_52 : decode cX6_addArticle 52 = .ok (.getfield 45, 3) := by decide +kernel
theorem dX6_addArticle_55 : decode cX6_addArticle 55 = .ok (.iload_n 1, 1) := by decide +kernel
theorem dX6_addArticle_56 : decode cX6_addArticle 56 = .ok (.iastore, 1) := by decide +kernel
theorem dX6_addArticle_57 : decode cX6_addArticle 57 = .ok (.aload_n 0, 1) := by decide +kernel
theorem dX6_addArticle_58 : decode cX6_addArticle 58 = .ok (.getfield 9, 3) := by decide +kernel
theorem dX6_addArticle_61 : decode cX6_addArticle 61 = .ok (.aload_n 0, 1) := by decide +kernel
theorem dX6_addArticle_62 : decode cX6_addArticle 62 = .ok (.getfield 45, 3) := by decide +kernel
theorem dX6_addArticle_65 : decode cX6_addArticle 65 = .ok (.iload_n 2, 1) := by decide +kernel
theorem dX6_addArticle_66 : decode cX6_addArticle 66 = .ok (.iastore, 1) := by decide +kernel
theorem dX6_addArticle_67 : decode cX6_addArticle 67 = .ok (.aload_n 0, 1) := by decide +kernel
theorem dX6_addArticle_68 : decode cX6_addArticle 68 = .ok (.dup, 1) := by decide +kernel
theorem dX6_addArticle_69 : decode cX6_addArticle 69 = .ok (.getfield 45, 3) := by decide +kernel
theorem dX6_addArticle_72 : decode cX6_addArticle 72 = .ok (.iconst 1, 1) := by decide +kernel
theorem dX6_addArticle_73 : decode cX6_addArticle 73 = .ok (.iadd, 1) := by decide +kernel
theorem dX6_addArticle_74 : decode cX6_addArticle 74 = .ok (.putfield 45, 3) := by decide +kernel
theorem dX6_addArticle_77 : decode cX6_addArticle 77 = .ok (.aload_n 0, 1) := by decide +kernel
theorem dX6_addArticle_78 : decode cX6_addArticle 78 = .ok (.getfield 45, 3) := by decide +kernel
theorem dX6_addArticle_81 : decode cX6_addArticle 81 = .ok (.iconst 1, 1) := by decide +kernel
theorem dX6_addArticle_82 : decode cX6_addArticle 82 = .ok (.isub, 1) := by decide +kernel
theorem dX6_addArticle_83 : decode cX6_addArticle 83 = .ok (.ireturn, 1) := by decide +kernel
theorem dX6_setPrice_0 : decode cX6_setPrice 0 = .ok (.aload_n 0, 1) := by decide +kernel
theorem dX6_setPrice_1 : decode cX6_setPrice 1 = .ok (.iconst 0, 1) := by decide +kernel
theorem dX6_setPrice_2 : decode cX6_setPrice 2 = .ok (.putfield 42, 3) := by decide +kernel
theorem dX6_setPrice_5 : decode cX6_setPrice 5 = .ok (.aload_n 0, 1) := by decide +kernel
theorem dX6_setPrice_6 : decode cX6_setPrice 6 = .ok (.iload_n 1, 1) := by decide +kernel
theorem dX6_setPrice_7 : decode cX6_setPrice 7 = .ok (.invokevirtual 62, 3) := by decide +kernel
theorem dX6_setPrice_10 : decode cX6_setPrice 10 = .ok (.ifCond .ne 9, 3) := by decide +kernel
theorem dX6_setPrice_13 : decode cX6_setPrice 13 = .ok (.aload_n 0, 1) := by decide +kernel
theorem dX6_setPrice_14 : decode cX6_setPrice 14 = .ok (.iconst 1, 1) := by decide +kernel
theorem dX6_setPrice_15 : decode cX6_setPrice 15 = .ok (.invokevirtual 58, 3) := by decide +kernel
theorem dX6_setPrice_18 : decode cX6_setPrice 18 = .ok (.ireturn, 1) := by decide +kernel
theorem dX6_setPrice_19 : decode cX6_setPrice 19 = .ok (.iload_n 2, 1) := by decide +kernel
theorem dX6_setPrice_20 : decode cX6_setPrice 20 = .ok (.iconst 1, 1) := by decide +kernel
theorem dX6_setPrice_21 : decode cX6_setPrice 21 = .ok (.sipush 10000, 3) := by decide +kernel
theorem dX6_setPrice_24 : decode cX6_setPrice 24 = .ok (.invokestatic 48, 3) := by decide +kernel
theorem dX6_setPrice_27 : decode cX6_setPrice 27 = .ok (.ifCond .ne 9, 3) := by decide +kernel
theorem dX6_setPrice_30 : decode cX6_setPrice 30 = .ok (.aload_n 0, 1) := by decide +kernel
theorem dX6_setPrice_31 : decode cX6_setPrice 31 = .ok (.iconst 2, 1) := by decide +kernel
theorem dX6_setPrice_32 : decode cX6_setPrice 32 = .ok (.invokevirtual 58, 3) := by decide +kernel
theorem dX6_setPrice_35 : decode cX6_setPrice 35 = .ok (.ireturn, 1) := by decide +kernel
theorem dX6_setPrice_36 : decode cX6_setPrice 36 = .ok (.aload_n 0, 1) := by decide +kernel
theorem dX6_setPrice_37 : decode cX6_setPrice 37 = .ok (.getfield 16, 3) := by decide +kernel
theorem dX6_setPrice_40 : decode cX6_setPrice 40 = .ok (.iload_n 1, 1) := by decide +kernel
theorem dX6_setPrice_41 : decode cX6_setPrice 41 = .ok (.iaload, 1) := by decide +kernel
theorem dX6_setPrice_42 : decode cX6_setPrice 42 = .ok (.istore_n 3, 1) := by decide +kernel
theorem dX6_setPrice_43 : decode cX6_setPrice 43 = .ok (.aload_n 0, 1) := by decide +kernel
theorem dX6_setPrice_44 : decode cX6_setPrice 44 = .ok (.getfield 16, 3) := by decide +kernel
theorem dX6_setPrice_47 : decode cX6_setPrice 47 = .ok (.iload_n 1, 1) := by decide +kernel
theorem dX6_setPrice_48 : decode cX6_setPrice 48 = .ok (.iload_n 2, 1) := by decide +kernel
theorem dX6_setPrice_49 : decode cX6_setPrice 49 = .ok (.iastore, 1) := by decide +kernel
theorem dX6_setPrice_50 : decode cX6_setPrice 50 = .ok (.iload_n 3, 1) := by decide +kernel
theorem dX6_setPrice_51 : decode cX6_setPrice 51 = .ok (.ireturn, 1) := by decide +kernel
theorem dX6_put_0 : decode cX6_put 0 = .ok (.aload_n 0, 1) := by decide +kernel
theorem dX6_put_1 : decode cX6_put 1 = .ok (.iconst 0, 1) := by decide +kernel
theorem dX6_put_2 : decode cX6_put 2 = .ok (.putfield 42, 3) := by decide +kernel
theorem dX6_put_5 : decode cX6_put 5 = .ok (.aload_n 0, 1) := by decide +kernel
theorem dX6_put_6 : decode cX6_put 6 = .ok (.iload_n 1, 1) := by decide +kernel
theorem dX6_put_7 : decode cX6_put 7 = .ok (.invokevirtual 62, 3) := by decide +kernel
theorem dX6_put_10 : decode cX6_put 10 = .ok (.ifCond .ne 9, 3) := by decide +kernel
theorem dX6_put_13 : decode cX6_put 13 = .ok (.aload_n 0, 1) := by decide +kernel
theorem dX6_put_14 : decode cX6_put 14 = .ok (.iconst 1, 1) := by decide +kernel
theorem dX6_put_15 : decode cX6_put 15 = .ok (.invokevirtual 58, 3) := by decide +kernel
theorem dX6_put_18 : decode cX6_put 18 = .ok (.ireturn, 1) := by decide +kernel
theorem dX6_put_19 : decode cX6_put 19 = .ok (.iload_n 2, 1) := by decide +kernel
theorem dX6_put_20 : decode cX6_put 20 = .ok (.iconst 0, 1) := by decide +kernel
theorem dX6_put_21 : decode cX6_put 21 = .ok (.bipush 6, 2) := by decide +kernel
theorem dX6_put_23 : decode cX6_put 23 = .ok (.invokestatic 48, 3) := by decide +kernel
theorem dX6_put_26 : decode cX6_put 26 = .ok (.ifCond .ne 9, 3) := by decide +kernel
theorem dX6_put_29 : decode cX6_put 29 = .ok (.aload_n 0, 1) := by decide +kernel
theorem dX6_put_30 : decode cX6_put 30 = .ok (.iconst 2, 1) := by decide +kernel
theorem dX6_put_31 : decode cX6_put 31 = .ok (.invokevirtual 58, 3) := by decide +kernel
theorem dX6_put_34 : decode cX6_put 34 = .ok (.ireturn, 1) := by decide +kernel
theorem dX6_put_35 : decode cX6_put 35 = .ok (.aload_n 0, 1) := by decide +kernel
theorem dX6_put_36 : decode cX6_put 36 = .ok (.getfield 13, 3) := by decide +kernel
theorem dX6_put_39 : decode cX6_put 39 = .ok (.iload_n 1, 1) := by decide +kernel
theorem dX6_put_40 : decode cX6_put 40 = .ok (.iaload, 1) := by decide +kernel
theorem dX6_put_41 : decode cX6_put 41 = .ok (.istore_n 3, 1) := by decide +kernel
theorem dX6_put_42 : decode cX6_put 42 = .ok (.aload_n 0, 1) := by decide +kernel
theorem dX6_put_43 : decode cX6_put 43 = .ok (.getfield 13, 3) := by decide +kernel
theorem dX6_put_46 : decode cX6_put 46 = .ok (.iload_n 1, 1) := by decide +kernel
theorem dX6_put_47 : decode cX6_put 47 = .ok (.iload_n 2, 1) := by decide +kernel
theorem dX6_put_48 : decode cX6_put 48 = .ok (.iastore, 1) := by decide +kernel
theorem dX6_put_49 : decode cX6_put 49 = .ok (.iload_n 3, 1) := by decide +kernel
theorem dX6_put_50 : decode cX6_put 50 = .ok (.ireturn, 1) := by decide +kernel
theorem dX6_valueOf_0 : decode cX6_valueOf 0 = .ok (.iconst 0, 1) := by decide +kernel
theorem dX6_valueOf_1 : decode cX6_valueOf 1 = .ok (.istore_n 2, 1) := by decide +kernel
theorem dX6_valueOf_2 : decode cX6_valueOf 2 = .ok (.iconst 0, 1) := by decide +kernel
theorem dX6_valueOf_3 : decode cX6_valueOf 3 = .ok (.istore_n 3, 1) := by decide +kernel
theorem dX6_valueOf_4 : decode cX6_valueOf 4 = .ok (.iload_n 3, 1) := by decide +kernel
theorem dX6_valueOf_5 : decode cX6_valueOf 5 = .ok (.aload_n 0, 1) := by decide +kernel
theorem dX6_valueOf_6 : decode cX6_valueOf 6 = .ok (.getfield 45, 3) := by decide +kernel
theorem dX6_valueOf_9 : decode cX6_valueOf 9 = .ok (.if_icmp .ge 35, 3) := by decide +kernel
theorem dX6_valueOf_12 : decode cX6_valueOf 12 = .ok (.iload_n 2, 1) := by decide +kernel
theorem dX6_valueOf_13 : decode cX6_valueOf 13 = .ok (.aload_n 0, 1) := by decide +kernel
theorem dX6_valueOf_14 : decode cX6_valueOf 14 = .ok (.getfield 13, 3) := by decide +kernel
theorem dX6_valueOf_17 : decode cX6_valueOf 17 = .ok (.bipush 10, 2) := by decide +kernel
theorem dX6_valueOf_19 : decode cX6_valueOf 19 = .ok (.iload_n 1, 1) := by decide +kernel
theorem dX6_valueOf_20 : decode cX6_valueOf 20 = .ok (.imul, 1) := by decide +kernel
theorem dX6_valueOf_21 : decode cX6_valueOf 21 = .ok (.iload_n 3, 1) := by decide +kernel
theorem dX6_valueOf_22 : decode cX6_valueOf 22 = .ok (.iadd, 1) := by decide +kernel
theorem dX6_valueOf_23 : decode cX6_valueOf 23 = .ok (.iaload, 1) := by decide +kernel
theorem dX6_valueOf_24 : decode cX6_valueOf 24 = .ok (.aload_n 0, 1) := by decide +kernel
theorem dX6_valueOf_25 : decode cX6_valueOf 25 = .ok (.getfield 16, 3) := by decide +kernel
theorem dX6_valueOf_28 : decode cX6_valueOf 28 = .ok (.bipush 10, 2) := by decide +kernel
theorem dX6_valueOf_30 : decode cX6_valueOf 30 = .ok (.iload_n 1, 1) := by decide +kernel
theorem dX6_valueOf_31 : decode cX6_valueOf 31 = .ok (.imul, 1) := by decide +kernel
theorem dX6_valueOf_32 : decode cX6_valueOf 32 = .ok (.iload_n 3, 1) := by decide +kernel
theorem dX6_valueOf_33 : decode cX6_valueOf 33 = .ok (.iadd, 1) := by decide +kernel
theorem dX6_valueOf_34 : decode cX6_valueOf 34 = .ok (.iaload, 1) := by decide +kernel
theorem dX6_valueOf_35 : decode cX6_valueOf 35 = .ok (.imul, 1) := by decide +kernel
theorem dX6_valueOf_36 : decode cX6_valueOf 36 = .ok (.iadd, 1) := by decide +kernel
theorem dX6_valueOf_37 : decode cX6_valueOf 37 = .ok (.istore_n 2, 1) := by decide +kernel
theorem dX6_valueOf_38 : decode cX6_valueOf 38 = .ok (.iinc 3 1, 3) := by decide +kernel
theorem dX6_valueOf_41 : decode cX6_valueOf 41 = .ok (.goto (-37), 3) := by decide +kernel
theorem dX6_valueOf_44 : decode cX6_valueOf 44 = .ok (.iload_n 2, 1) := by decide +kernel
theorem dX6_valueOf_45 : decode cX6_valueOf 45 = .ok (.ireturn, 1) := by decide +kernel
theorem dX6_sizeOf_0 : decode cX6_sizeOf 0 = .ok (.iconst 0, 1) := by decide +kernel
theorem dX6_sizeOf_1 : decode cX6_sizeOf 1 = .ok (.istore_n 2, 1) := by decide +kernel
theorem dX6_sizeOf_2 : decode cX6_sizeOf 2 = .ok (.iconst 0, 1) := by decide +kernel
theorem dX6_sizeOf_3 : decode cX6_sizeOf 3 = .ok (.istore_n 3, 1) := by decide +kernel
theorem dX6_sizeOf_4 : decode cX6_sizeOf 4 = .ok (.iload_n 3, 1) := by decide +kernel
theorem dX6_sizeOf_5 : decode cX6_sizeOf 5 = .ok (.aload_n 0, 1) := by decide +kernel
theorem dX6_sizeOf_6 : decode cX6_sizeOf 6 = .ok (.getfield 45, 3) := by decide +kernel
theorem dX6_sizeOf_9 : decode cX6_sizeOf 9 = .ok (.if_icmp .ge 23, 3) := by decide +kernel
theorem dX6_sizeOf_12 : decode cX6_sizeOf 12 = .ok (.iload_n 2, 1) := by decide +kernel
theorem dX6_sizeOf_13 : decode cX6_sizeOf 13 = .ok (.aload_n 0, 1) := by decide +kernel
theorem dX6_sizeOf_14 : decode cX6_sizeOf 14 = .ok (.getfield 13, 3) := by decide +kernel
theorem dX6_sizeOf_17 : decode cX6_sizeOf 17 = .ok (.bipush 10, 2) := by decide +kernel
theorem dX6_sizeOf_19 : decode cX6_sizeOf 19 = .ok (.iload_n 1, 1) := by decide +kernel
theorem dX6_sizeOf_20 : decode cX6_sizeOf 20 = .ok (.imul, 1) := by decide +kernel
theorem dX6_sizeOf_21 : decode cX6_sizeOf 21 = .ok (.iload_n 3, 1) := by decide +kernel
theorem dX6_sizeOf_22 : decode cX6_sizeOf 22 = .ok (.iadd, 1) := by decide +kernel
theorem dX6_sizeOf_23 : decode cX6_sizeOf 23 = .ok (.iaload, 1) := by decide +kernel
theorem dX6_sizeOf_24 : decode cX6_sizeOf 24 = .ok (.iadd, 1) := by decide +kernel
theorem dX6_sizeOf_25 : decode cX6_sizeOf 25 = .ok (.istore_n 2, 1) := by decide +kernel
theorem dX6_sizeOf_26 : decode cX6_sizeOf 26 = .ok (.iinc 3 1, 3) := by decide +kernel
theorem dX6_sizeOf_29 : decode cX6_sizeOf 29 = .ok (.goto (-25), 3) := by decide +kernel
theorem dX6_sizeOf_32 : decode cX6_sizeOf 32 = .ok (.iload_n 2, 1) := by decide +kernel
theorem dX6_sizeOf_33 : decode cX6_sizeOf 33 = .ok (.ireturn, 1) := by decide +kernel
theorem dX6_value_0 : decode cX6_value 0 = .ok (.aload_n 0, 1) := by decide +kernel
theorem dX6_value_1 : decode cX6_value 1 = .ok (.iconst 0, 1) := by decide +kernel
theorem dX6_value_2 : decode cX6_value 2 = .ok (.putfield 42, 3) := by decide +kernel
theorem dX6_value_5 : decode cX6_value 5 = .ok (.aload_n 0, 1) := by decide +kernel
theorem dX6_value_6 : decode cX6_value 6 = .ok (.iconst 0, 1) := by decide +kernel
theorem dX6_value_7 : decode cX6_value 7 = .ok (.invokevirtual 66, 3) := by decide +kernel
theorem dX6_value_10 : decode cX6_value 10 = .ok (.ireturn, 1) := by decide +kernel
theorem dX6_setShipping_0 : decode cX6_setShipping 0 = .ok (.aload_n 0, 1) := by decide +kernel
theorem dX6_setShipping_1 : decode cX6_setShipping 1 = .ok (.iconst 0, 1) := by decide +kernel
theorem dX6_setShipping_2 : decode cX6_setShipping 2 = .ok (.putfield 42, 3) := by decide +kernel
theorem dX6_setShipping_5 : decode cX6_setShipping 5 = .ok (.iload_n 1, 1) := by decide +kernel
theorem dX6_setShipping_6 : decode cX6_setShipping 6 = .ok (.iconst 0, 1) := by decide +kernel
theorem dX6_setShipping_7 : decode cX6_setShipping 7 = .ok (.sipush 10000, 3) := by decide +kernel
theorem dX6_setShipping_10 : decode cX6_setShipping 10 = .ok (.invokestatic 48, 3) := by decide +kernel
theorem dX6_setShipping_13 : decode cX6_setShipping 13 = .ok (.ifCond .eq 13, 3) := by decide +kernel
theorem dX6_setShipping_16 : decode cX6_setShipping 16 = .ok (.iload_n 2, 1) := by decide +kernel
theorem dX6_setShipping_17 : decode cX6_setShipping 17 = .ok (.iconst 0, 1) := by decide +kernel
theorem dX6_setShipping_18 : decode cX6_setShipping 18 = .ok (.ldc 19, 2) := by decide +kernel
theorem dX6_setShipping_20 : decode cX6_setShipping 20 = .ok (.invokestatic 48, 3) := by decide +kernel
theorem dX6_setShipping_23 : decode cX6_setShipping 23 = .ok (.ifCond .ne 9, 3) := by decide +kernel
theorem dX6_setShipping_26 : decode cX6_setShipping 26 = .ok (.aload_n 0, 1) := by decide +kernel
theorem dX6_setShipping_27 : decode cX6_setShipping 27 = .ok (.iconst 1, 1) := by decide +kernel
theorem dX6_setShipping_28 : decode cX6_setShipping 28 = .ok (.invokevirtual 58, 3) := by decide +kernel
theorem dX6_setShipping_31 : decode cX6_setShipping 31 = .ok (.ireturn, 1) := by decide +kernel
theorem dX6_setShipping_32 : decode cX6_setShipping 32 = .ok (.aload_n 0, 1) := by decide +kernel
theorem dX6_setShipping_33 : decode cX6_setShipping 33 = .ok (.getfield 69, 3) := by decide +kernel
theorem dX6_setShipping_36 : decode cX6_setShipping 36 = .ok (.istore_n 3, 1) := by decide +kernel
theorem dX6_setShipping_37 : decode cX6_setShipping 37 = .ok (.aload_n 0, 1) := by decide +kernel
theorem dX6_setShipping_38 : decode cX6_setShipping 38 = .ok (.iload_n 1, 1) := by decide +kernel
theorem dX6_setShipping_39 : decode cX6_setShipping 39 = .ok (.putfield 69, 3) := by decide +kernel
theorem dX6_setShipping_42 : decode cX6_setShipping 42 = .ok (.aload_n 0, 1) := by decide +kernel
theorem dX6_setShipping_43 : decode cX6_setShipping 43 = .ok (.iload_n 2, 1) := by decide +kernel
theorem dX6_setShipping_44 : decode cX6_setShipping 44 = .ok (.putfield 20, 3) := by decide +kernel
theorem dX6_setShipping_47 : decode cX6_setShipping 47 = .ok (.iload_n 3, 1) := by decide +kernel
theorem dX6_setShipping_48 : decode cX6_setShipping 48 = .ok (.ireturn, 1) := by decide +kernel
theorem dX6_isValue_0 : decode cX6_isValue 0 = .ok (.iload_n 0, 1) := by decide +kernel
theorem dX6_isValue_1 : decode cX6_isValue 1 = .ok (.ifCond .ne 13, 3) := by decide +kernel
theorem dX6_isValue_4 : decode cX6_isValue 4 = .ok (.iload_n 1, 1) := by decide +kernel
theorem dX6_isValue_5 : decode cX6_isValue 5 = .ok (.iconst 1, 1) := by decide +kernel
theorem dX6_isValue_6 : decode cX6_isValue 6 = .ok (.bipush 100, 2) := by decide +kernel
theorem dX6_isValue_8 : decode cX6_isValue 8 = .ok (.invokestatic 48, 3) := by decide +kernel
theorem dX6_isValue_11 : decode cX6_isValue 11 = .ok (.ifCond .ne 42, 3) := by decide +kernel
theorem dX6_isValue_14 : decode cX6_isValue 14 = .ok (.iload_n 0, 1) := by decide +kernel
theorem dX6_isValue_15 : decode cX6_isValue 15 = .ok (.iconst 1, 1) := by decide +kernel
theorem dX6_isValue_16 : decode cX6_isValue 16 = .ok (.if_icmp .ne 13, 3) := by decide +kernel
theorem dX6_isValue_19 : decode cX6_isValue 19 = .ok (.iload_n 1, 1) := by decide +kernel
theorem dX6_isValue_20 : decode cX6_isValue 20 = .ok (.iconst 1, 1) := by decide +kernel
theorem dX6_isValue_21 : decode cX6_isValue 21 = .ok (.ldc 72, 2) := by decide +kernel
theorem dX6_isValue_23 : decode cX6_isValue 23 = .ok (.invokestatic 48, 3) := by decide +kernel
theorem dX6_isValue_26 : decode cX6_isValue 26 = .ok (.ifCond .ne 27, 3) := by decide +kernel
theorem dX6_isValue_29 : decode cX6_isValue 29 = .ok (.iload_n 0, 1) := by decide +kernel
theorem dX6_isValue_30 : decode cX6_isValue 30 = .ok (.iconst 2, 1) := by decide +kernel
theorem dX6_isValue_31 : decode cX6_isValue 31 = .ok (.if_icmp .ne 13, 3) := by decide +kernel
theorem dX6_isValue_34 : decode cX6_isValue 34 = .ok (.iload_n 1, 1) := by decide +kernel
theorem dX6_isValue_35 : decode cX6_isValue 35 = .ok (.iconst 2, 1) := by decide +kernel
theorem dX6_isValue_36 : decode cX6_isValue 36 = .ok (.bipush 9, 2) := by decide +kernel
theorem dX6_isValue_38 : decode cX6_isValue 38 = .ok (.invokestatic 48, 3) := by decide +kernel
theorem dX6_isValue_41 : decode cX6_isValue 41 = .ok (.ifCond .ne 12, 3) := by decide +kernel
theorem dX6_isValue_44 : decode cX6_isValue 44 = .ok (.iload_n 0, 1) := by decide +kernel
theorem dX6_isValue_45 : decode cX6_isValue 45 = .ok (.iconst 3, 1) := by decide +kernel
theorem dX6_isValue_46 : decode cX6_isValue 46 = .ok (.if_icmp .ne 11, 3) := by decide +kernel
theorem dX6_isValue_49 : decode cX6_isValue 49 = .ok (.iload_n 1, 1) := by decide +kernel
theorem dX6_isValue_50 : decode cX6_isValue 50 = .ok (.ifCond .ne 7, 3) := by decide +kernel
theorem dX6_isValue_53 : decode cX6_isValue 53 = .ok (.iconst 1, 1) := by decide +kernel
theorem dX6_isValue_54 : decode cX6_isValue 54 = .ok (.goto 4, 3) := by decide +kernel
theorem dX6_isValue_57 : decode cX6_isValue 57 = .ok (.iconst 0, 1) := by decide +kernel
theorem dX6_isValue_58 : decode cX6_isValue 58 = .ok (.ireturn, 1) := by decide +kernel
theorem dX6_addCoupon_0 : decode cX6_addCoupon 0 = .ok (.aload_n 0, 1) := by decide +kernel
theorem dX6_addCoupon_1 : decode cX6_addCoupon 1 = .ok (.iconst 0, 1) := by decide +kernel
theorem dX6_addCoupon_2 : decode cX6_addCoupon 2 = .ok (.putfield 42, 3) := by decide +kernel
theorem dX6_addCoupon_5 : decode cX6_addCoupon 5 = .ok (.iload_n 1, 1) := by decide +kernel
theorem dX6_addCoupon_6 : decode cX6_addCoupon 6 = .ok (.iload_n 2, 1) := by decide +kernel
theorem dX6_addCoupon_7 : decode cX6_addCoupon 7 = .ok (.invokestatic 73, 3) := by decide +kernel
theorem dX6_addCoupon_10 : decode cX6_addCoupon 10 = .ok (.ifCond .eq 35, 3) := by decide +kernel
theorem dX6_addCoupon_13 : decode cX6_addCoupon 13 = .ok (.iload_n 3, 1) := by decide +kernel
theorem dX6_addCoupon_14 : decode cX6_addCoupon 14 = .ok (.iconst 1, 1) := by decide +kernel
theorem dX6_addCoupon_15 : decode cX6_addCoupon 15 = .ok (.sipush 255, 3) := by decide +kernel
theorem dX6_addCoupon_18 : decode cX6_addCoupon 18 = .ok (.invokestatic 48, 3) := by decide +kernel
theorem dX6_addCoupon_21 : decode cX6_addCoupon 21 = .ok (.ifCond .eq 24, 3) := by decide +kernel
theorem dX6_addCoupon_24 : decode cX6_addCoupon 24 = .ok (.iload 4, 2) := by decide +kernel
theorem dX6_addCoupon_26 : decode cX6_addCoupon 26 = .ok (.iconst 0, 1) := by decide +kernel
theorem dX6_addCoupon_27 : decode cX6_addCoupon 27 = .ok (.ldc 19, 2) := by decide +kernel
theorem dX6_addCoupon_29 : decode cX6_addCoupon 29 = .ok (.invokestatic 48, 3) := by decide +kernel
theorem dX6_addCoupon_32 : decode cX6_addCoupon 32 = .ok (.ifCond .eq 13, 3) := by decide +kernel
theorem dX6_addCoupon_35 : decode cX6_addCoupon 35 = .ok (.iload 5, 2) := by decide +kernel
theorem dX6_addCoupon_37 : decode cX6_addCoupon 37 = .ok (.iconst 0, 1) := by decide +kernel
theorem dX6_addCoupon_38 : decode cX6_addCoupon 38 = .ok (.iconst 3, 1) := by decide +kernel
theorem dX6_addCoupon_39 : decode cX6_addCoupon 39 = .ok (.invokestatic 48, 3) := by decide +kernel
theorem dX6_addCoupon_42 : decode cX6_addCoupon 42 = .ok (.ifCond .ne 9, 3) := by decide +kernel
theorem dX6_addCoupon_45 : decode cX6_addCoupon 45 = .ok (.aload_n 0, 1) := by decide +kernel
theorem dX6_addCoupon_46 : decode cX6_addCoupon 46 = .ok (.iconst 1, 1) := by decide +kernel
theorem dX6_addCoupon_47 : decode cX6_addCoupon 47 = .ok (.invokevirtual 58, 3) := by decide +kernel
theorem dX6_addCoupon_50 : decode cX6_addCoupon 50 = .ok (.ireturn, 1) := by decide +kernel
theorem dX6_addCoupon_51 : decode cX6_addCoupon 51 = .ok (.aload_n 0, 1) := by decide +kernel
theorem dX6_addCoupon_52 : decode cX6_addCoupon 52 = .ok (.getfield 52, 3) := by decide +kernel
theorem dX6_addCoupon_55 : decode cX6_addCoupon 55 = .ok (.bipush 8, 2) := by decide +kernel
theorem dX6_addCoupon_57 : decode cX6_addCoupon 57 = .ok (.if_icmp .ne 9, 3) := by decide +kernel
theorem dX6_addCoupon_60 : decode cX6_addCoupon 60 = .ok (.aload_n 0, 1) := by decide +kernel
theorem dX6_addCoupon_61 : decode cX6_addCoupon 61 = .ok (.iconst 2, 1) := by decide +kernel
theorem dX6_addCoupon_62 : decode cX6_addCoupon 62 = .ok (.invokevirtual 58, 3) := by decide +kernel
theorem dX6_addCoupon_65 : decode cX6_addCoupon 65 = .ok (.ireturn, 1) := by decide +kernel
theorem dX6_addCoupon_66 : decode cX6_addCoupon 66 = .ok (.bipush 6, 2) := by decide +kernel
theorem dX6_addCoupon_68 : decode cX6_addCoupon 68 = .ok (.newarray .int, 2) := by decide +kernel
theorem dX6_addCoupon_70 : decode cX6_addCoupon 70 = .ok (.dup, 1) := by decide +kernel
theorem dX6_addCoupon_71 : decode cX6_addCoupon 71 = .ok (.iconst 0, 1) := by decide +kernel
theorem dX6_addCoupon_72 : decode cX6_addCoupon 72 = .ok (.iload_n 1, 1) := by decide +kernel
theorem dX6_addCoupon_73 : decode cX6_addCoupon 73 = .ok (.iastore, 1) := by decide +kernel
theorem dX6_addCoupon_74 : decode cX6_addCoupon 74 = .ok (.dup, 1) := by decide +kernel
theorem dX6_addCoupon_75 : decode cX6_addCoupon 75 = .ok (.iconst 1, 1) := by decide +kernel
theorem dX6_addCoupon_76 : decode cX6_addCoupon 76 = .ok (.iload_n 2, 1) := by decide +kernel
theorem dX6_addCoupon_77 : decode cX6_addCoupon 77 = .ok (.iastore, 1) := by decide +kernel
theorem dX6_addCoupon_78 : decode cX6_addCoupon 78 = .ok (.dup, 1) := by decide +kernel
theorem dX6_addCoupon_79 : decode cX6_addCoupon 79 = .ok (.iconst 2, 1) := by decide +kernel
theorem dX6_addCoupon_80 : decode cX6_addCoupon 80 = .ok (.iload_n 3, 1) := by decide +kernel
theorem dX6_addCoupon_81 : decode cX6_addCoupon 81 = .ok (.iastore, 1) := by decide +kernel
theorem dX6_addCoupon_82 : decode cX6_addCoupon 82 = .ok (.dup, 1) := by decide +kernel
theorem dX6_addCoupon_83 : decode cX6_addCoupon 83 = .ok (.iconst 3, 1) := by decide +kernel
theorem dX6_addCoupon_84 : decode cX6_addCoupon 84 = .ok (.iload 4, 2) := by decide +kernel
theorem dX6_addCoupon_86 : decode cX6_addCoupon 86 = .ok (.iastore, 1) := by decide +kernel
theorem dX6_addCoupon_87 : decode cX6_addCoupon 87 = .ok (.dup, 1) := by decide +kernel
theorem dX6_addCoupon_88 : decode cX6_addCoupon 88 = .ok (.iconst 4, 1) := by decide +kernel
theorem dX6_addCoupon_89 : decode cX6_addCoupon 89 = .ok (.iload 5, 2) := by decide +kernel
theorem dX6_addCoupon_91 : decode cX6_addCoupon 91 = .ok (.iastore, 1) := by decide +kernel
theorem dX6_addCoupon_92 : decode cX6_addCoupon 92 = .ok (.dup, 1) := by decide +kernel
theorem dX6_addCoupon_93 : decode cX6_addCoupon 93 = .ok (.iconst 5, 1) := by decide +kernel
theorem dX6_addCoupon_94 : decode cX6_addCoupon 94 = .ok (.bipush 9, 2) := by decide +kernel
theorem dX6_addCoupon_96 : decode cX6_addCoupon 96 = .ok (.iastore, 1) := by decide +kernel
theorem dX6_addCoupon_97 : decode cX6_addCoupon 97 = .ok (.astore 6, 2) := by decide +kernel
theorem dX6_addCoupon_99 : decode cX6_addCoupon 99 = .ok (.aload 6, 2) := by decide +kernel
theorem dX6_addCoupon_101 : decode cX6_addCoupon 101 = .ok (.iconst 0, 1) := by decide +kernel
theorem dX6_addCoupon_102 : decode cX6_addCoupon 102 = .ok (.aload_n 0, 1) := by decide +kernel
theorem dX6_addCoupon_103 : decode cX6_addCoupon 103 = .ok (.getfield 24, 3) := by decide +kernel
theorem dX6_addCoupon_106 : decode cX6_addCoupon 106 = .ok (.bipush 6, 2) := by decide +kernel
theorem dX6_addCoupon_108 : decode cX6_addCoupon 108 = .ok (.aload_n 0, 1) := by decide +kernel
theorem dX6_addCoupon_109 : decode cX6_addCoupon 109 = .ok (.getfield 52, 3) := by decide +kernel
theorem dX6_addCoupon_112 : decode cX6_addCoupon 112 = .ok (.imul, 1) := by decide +kernel
theorem dX6_addCoupon_113 : decode cX6_addCoupon 113 = .ok (.bipush 6, 2) := by decide +kernel
theorem dX6_addCoupon_115 : decode cX6_addCoupon 115 = .ok (.invokestatic 77, 3) := by decide +kernel
theorem dX6_addCoupon_118 : decode cX6_addCoupon 118 = .ok (.aload_n 0, 1) := by decide +kernel
theorem dX6_addCoupon_119 : decode cX6_addCoupon 119 = .ok (.dup, 1) := by decide +kernel
theorem dX6_addCoupon_120 : decode cX6_addCoupon 120 = .ok (.getfield 52, 3) := by decide +kernel
theorem dX6_addCoupon_123 : decode cX6_addCoupon 123 = .ok (.iconst 1, 1) := by decide +kernel
theorem dX6_addCoupon_124 : decode cX6_addCoupon 124 = .ok (.iadd, 1) := by decide +kernel
theorem dX6_addCoupon_125 : decode cX6_addCoupon 125 = .ok (.putfield 52, 3) := by decide +kernel
theorem dX6_addCoupon_128 : decode cX6_addCoupon 128 = .ok (.aload_n 0, 1) := by decide +kernel
theorem dX6_addCoupon_129 : decode cX6_addCoupon 129 = .ok (.getfield 52, 3) := by decide +kernel
theorem dX6_addCoupon_132 : decode cX6_addCoupon 132 = .ok (.iconst 1, 1) := by decide +kernel
theorem dX6_addCoupon_133 : decode cX6_addCoupon 133 = .ok (.isub, 1) := by decide +kernel
theorem dX6_addCoupon_134 : decode cX6_addCoupon 134 = .ok (.ireturn, 1) := by decide +kernel
theorem dX6_setUses_0 : decode cX6_setUses 0 = .ok (.aload_n 0, 1) := by decide +kernel
theorem dX6_setUses_1 : decode cX6_setUses 1 = .ok (.iconst 0, 1) := by decide +kernel
theorem dX6_setUses_2 : decode cX6_setUses 2 = .ok (.putfield 42, 3) := by decide +kernel
theorem dX6_setUses_5 : decode cX6_setUses 5 = .ok (.aload_n 0, 1) := by decide +kernel
theorem dX6_setUses_6 : decode cX6_setUses 6 = .ok (.iload_n 1, 1) := by decide +kernel
theorem dX6_setUses_7 : decode cX6_setUses 7 = .ok (.invokevirtual 83, 3) := by decide +kernel
theorem dX6_setUses_10 : decode cX6_setUses 10 = .ok (.ifCond .ne 9, 3) := by decide +kernel
theorem dX6_setUses_13 : decode cX6_setUses 13 = .ok (.aload_n 0, 1) := by decide +kernel
theorem dX6_setUses_14 : decode cX6_setUses 14 = .ok (.iconst 1, 1) := by decide +kernel
theorem dX6_setUses_15 : decode cX6_setUses 15 = .ok (.invokevirtual 58, 3) := by decide +kernel
theorem dX6_setUses_18 : decode cX6_setUses 18 = .ok (.ireturn, 1) := by decide +kernel
theorem dX6_setUses_19 : decode cX6_setUses 19 = .ok (.iload_n 2, 1) := by decide +kernel
theorem dX6_setUses_20 : decode cX6_setUses 20 = .ok (.iconst 0, 1) := by decide +kernel
theorem dX6_setUses_21 : decode cX6_setUses 21 = .ok (.bipush 9, 2) := by decide +kernel
theorem dX6_setUses_23 : decode cX6_setUses 23 = .ok (.invokestatic 48, 3) := by decide +kernel
theorem dX6_setUses_26 : decode cX6_setUses 26 = .ok (.ifCond .ne 9, 3) := by decide +kernel
theorem dX6_setUses_29 : decode cX6_setUses 29 = .ok (.aload_n 0, 1) := by decide +kernel
theorem dX6_setUses_30 : decode cX6_setUses 30 = .ok (.iconst 2, 1) := by decide +kernel
theorem dX6_setUses_31 : decode cX6_setUses 31 = .ok (.invokevirtual 58, 3) := by decide +kernel
theorem dX6_setUses_34 : decode cX6_setUses 34 = .ok (.ireturn, 1) := by decide +kernel
theorem dX6_setUses_35 : decode cX6_setUses 35 = .ok (.aload_n 0, 1) := by decide +kernel
theorem dX6_setUses_36 : decode cX6_setUses 36 = .ok (.getfield 24, 3) := by decide +kernel
theorem dX6_setUses_39 : decode cX6_setUses 39 = .ok (.bipush 6, 2) := by decide +kernel
theorem dX6_setUses_41 : decode cX6_setUses 41 = .ok (.iload_n 1, 1) := by decide +kernel
theorem dX6_setUses_42 : decode cX6_setUses 42 = .ok (.imul, 1) := by decide +kernel
theorem dX6_setUses_43 : decode cX6_setUses 43 = .ok (.iconst 5, 1) := by decide +kernel
theorem dX6_setUses_44 : decode cX6_setUses 44 = .ok (.iadd, 1) := by decide +kernel
theorem dX6_setUses_45 : decode cX6_setUses 45 = .ok (.iaload, 1) := by decide +kernel
theorem dX6_setUses_46 : decode cX6_setUses 46 = .ok (.istore_n 3, 1) := by decide +kernel
theorem dX6_setUses_47 : decode cX6_setUses 47 = .ok (.aload_n 0, 1) := by decide +kernel
theorem dX6_setUses_48 : decode cX6_setUses 48 = .ok (.getfield 24, 3) := by decide +kernel
theorem dX6_setUses_51 : decode cX6_setUses 51 = .ok (.bipush 6, 2) := by decide +kernel
theorem dX6_setUses_53 : decode cX6_setUses 53 = .ok (.iload_n 1, 1) := by decide +kernel
theorem dX6_setUses_54 : decode cX6_setUses 54 = .ok (.imul, 1) := by decide +kernel
theorem dX6_setUses_55 : decode cX6_setUses 55 = .ok (.iconst 5, 1) := by decide +kernel
theorem dX6_setUses_56 : decode cX6_setUses 56 = .ok (.iadd, 1) := by decide +kernel
theorem dX6_setUses_57 : decode cX6_setUses 57 = .ok (.iload_n 2, 1) := by decide +kernel
theorem dX6_setUses_58 : decode cX6_setUses 58 = .ok (.iastore, 1) := by decide +kernel
theorem dX6_setUses_59 : decode cX6_setUses 59 = .ok (.iload_n 3, 1) := by decide +kernel
theorem dX6_setUses_60 : decode cX6_setUses 60 = .ok (.ireturn, 1) := by decide +kernel
theorem dX6_isMatch_0 : decode cX6_isMatch 0 = .ok (.aload_n 0, 1) := by decide +kernel
theorem dX6_isMatch_1 : decode cX6_isMatch 1 = .ok (.getfield 24, 3) := by decide +kernel
theorem dX6_isMatch_4 : decode cX6_isMatch 4 = .ok (.bipush 6, 2) := by decide +kernel
theorem dX6_isMatch_6 : decode cX6_isMatch 6 = .ok (.iload_n 1, 1) := by decide +kernel
theorem dX6_isMatch_7 : decode cX6_isMatch 7 = .ok (.imul, 1) := by decide +kernel
theorem dX6_isMatch_8 : decode cX6_isMatch 8 = .ok (.iconst 2, 1) := by decide +kernel
theorem dX6_isMatch_9 : decode cX6_isMatch 9 = .ok (.iadd, 1) := by decide +kernel
theorem dX6_isMatch_10 : decode cX6_isMatch 10 = .ok (.iaload, 1) := by decide +kernel
theorem dX6_isMatch_11 : decode cX6_isMatch 11 = .ok (.aload_n 0, 1) := by decide +kernel
theorem dX6_isMatch_12 : decode cX6_isMatch 12 = .ok (.getfield 9, 3) := by decide +kernel
theorem dX6_isMatch_15 : decode cX6_isMatch 15 = .ok (.iload_n 2, 1) := by decide +kernel
theorem dX6_isMatch_16 : decode cX6_isMatch 16 = .ok (.iaload, 1) := by decide +kernel
theorem dX6_isMatch_17 : decode cX6_isMatch 17 = .ok (.invokestatic 86, 3) := by decide +kernel
theorem dX6_isMatch_20 : decode cX6_isMatch 20 = .ok (.ireturn, 1) := by decide +kernel
theorem dX6_matchingIn_0 : decode cX6_matchingIn 0 = .ok (.iconst 0, 1) := by decide +kernel
theorem dX6_matchingIn_1 : decode cX6_matchingIn 1 = .ok (.istore_n 3, 1) := by decide +kernel
theorem dX6_matchingIn_2 : decode cX6_matchingIn 2 = .ok (.iconst 0, 1) := by decide +kernel
theorem dX6_matchingIn_3 : decode cX6_matchingIn 3 = .ok (.istore 4, 2) := by decide +kernel
theorem dX6_matchingIn_5 : decode cX6_matchingIn 5 = .ok (.iload 4, 2) := by decide +kernel
theorem dX6_matchingIn_7 : decode cX6_matchingIn 7 = .ok (.aload_n 0, 1) := by decide +kernel
theorem dX6_matchingIn_8 : decode cX6_matchingIn 8 = .ok (.getfield 45, 3) := by decide +kernel
theorem dX6_matchingIn_11 : decode cX6_matchingIn 11 = .ok (.if_icmp .ge 51, 3) := by decide +kernel
theorem dX6_matchingIn_14 : decode cX6_matchingIn 14 = .ok (.iload_n 3, 1) := by decide +kernel
theorem dX6_matchingIn_15 : decode cX6_matchingIn 15 = .ok (.aload_n 0, 1) := by decide +kernel
theorem dX6_matchingIn_16 : decode cX6_matchingIn 16 = .ok (.iload_n 2, 1) := by decide +kernel
theorem dX6_matchingIn_17 : decode cX6_matchingIn 17 = .ok (.iload 4, 2) := by decide +kernel
theorem dX6_matchingIn_19 : decode cX6_matchingIn 19 = .ok (.invokevirtual 89, 3) := by decide +kernel
theorem dX6_matchingIn_22 : decode cX6_matchingIn 22 = .ok (.ifCond .eq 31, 3) := by decide +kernel
theorem dX6_matchingIn_25 : decode cX6_matchingIn 25 = .ok (.aload_n 0, 1) := by decide +kernel
theorem dX6_matchingIn_26 : decode cX6_matchingIn 26 = .ok (.getfield 13, 3) := by decide +kernel
theorem dX6_matchingIn_29 : decode cX6_matchingIn 29 = .ok (.bipush 10, 2) := by decide +kernel
theorem dX6_matchingIn_31 : decode cX6_matchingIn 31 = .ok (.iload_n 1, 1) := by decide +kernel
theorem dX6_matchingIn_32 : decode cX6_matchingIn 32 = .ok (.imul, 1) := by decide +kernel
theorem dX6_matchingIn_33 : decode cX6_matchingIn 33 = .ok (.iload 4, 2) := by decide +kernel
theorem dX6_matchingIn_35 : decode cX6_matchingIn 35 = .ok (.iadd, 1) := by decide +kernel
theorem dX6_matchingIn_36 : decode cX6_matchingIn 36 = .ok (.iaload, 1) := by decide +kernel
theorem dX6_matchingIn_37 : decode cX6_matchingIn 37 = .ok (.aload_n 0, 1) := by decide +kernel
theorem dX6_matchingIn_38 : decode cX6_matchingIn 38 = .ok (.getfield 16, 3) := by decide +kernel
theorem dX6_matchingIn_41 : decode cX6_matchingIn 41 = .ok (.bipush 10, 2) := by decide +kernel
theorem dX6_matchingIn_43 : decode cX6_matchingIn 43 = .ok (.iload_n 1, 1) := by decide +kernel
theorem dX6_matchingIn_44 : decode cX6_matchingIn 44 = .ok (.imul, 1) := by decide +kernel
theorem dX6_matchingIn_45 : decode cX6_matchingIn 45 = .ok (.iload 4, 2) := by decide +kernel
theorem dX6_matchingIn_47 : decode cX6_matchingIn 47 = .ok (.iadd, 1) := by decide +kernel
theorem dX6_matchingIn_48 : decode cX6_matchingIn 48 = .ok (.iaload, 1) := by decide +kernel
theorem dX6_matchingIn_49 : decode cX6_matchingIn 49 = .ok (.imul, 1) := by decide +kernel
theorem dX6_matchingIn_50 : decode cX6_matchingIn 50 = .ok (.goto 4, 3) := by decide +kernel
theorem dX6_matchingIn_53 : decode cX6_matchingIn 53 = .ok (.iconst 0, 1) := by decide +kernel
theorem dX6_matchingIn_54 : decode cX6_matchingIn 54 = .ok (.iadd, 1) := by decide +kernel
theorem dX6_matchingIn_55 : decode cX6_matchingIn 55 = .ok (.istore_n 3, 1) := by decide +kernel
theorem dX6_matchingIn_56 : decode cX6_matchingIn 56 = .ok (.iinc 4 1, 3) := by decide +kernel
theorem dX6_matchingIn_59 : decode cX6_matchingIn 59 = .ok (.goto (-54), 3) := by decide +kernel
theorem dX6_matchingIn_62 : decode cX6_matchingIn 62 = .ok (.iload_n 3, 1) := by decide +kernel
theorem dX6_matchingIn_63 : decode cX6_matchingIn 63 = .ok (.ireturn, 1) := by decide +kernel
theorem dX6_fitsIn_0 : decode cX6_fitsIn 0 = .ok (.aload_n 0, 1) := by decide +kernel
theorem dX6_fitsIn_1 : decode cX6_fitsIn 1 = .ok (.iload_n 1, 1) := by decide +kernel
theorem dX6_fitsIn_2 : decode cX6_fitsIn 2 = .ok (.iload_n 2, 1) := by decide +kernel
theorem dX6_fitsIn_3 : decode cX6_fitsIn 3 = .ok (.invokevirtual 92, 3) := by decide +kernel
theorem dX6_fitsIn_6 : decode cX6_fitsIn 6 = .ok (.ifCond .le 27, 3) := by decide +kernel
theorem dX6_fitsIn_9 : decode cX6_fitsIn 9 = .ok (.aload_n 0, 1) := by decide +kernel
theorem dX6_fitsIn_10 : decode cX6_fitsIn 10 = .ok (.iload_n 1, 1) := by decide +kernel
theorem dX6_fitsIn_11 : decode cX6_fitsIn 11 = .ok (.iload_n 2, 1) := by decide +kernel
theorem dX6_fitsIn_12 : decode cX6_fitsIn 12 = .ok (.invokevirtual 92, 3) := by decide +kernel
theorem dX6_fitsIn_15 : decode cX6_fitsIn 15 = .ok (.aload_n 0, 1) := by decide +kernel
theorem dX6_fitsIn_16 : decode cX6_fitsIn 16 = .ok (.getfield 24, 3) := by decide +kernel
theorem dX6_fitsIn_19 : decode cX6_fitsIn 19 = .ok (.bipush 6, 2) := by decide +kernel
theorem dX6_fitsIn_21 : decode cX6_fitsIn 21 = .ok (.iload_n 2, 1) := by decide +kernel
theorem dX6_fitsIn_22 : decode cX6_fitsIn 22 = .ok (.imul, 1) := by decide +kernel
theorem dX6_fitsIn_23 : decode cX6_fitsIn 23 = .ok (.iconst 3, 1) := by decide +kernel
theorem dX6_fitsIn_24 : decode cX6_fitsIn 24 = .ok (.iadd, 1) := by decide +kernel
theorem dX6_fitsIn_25 : decode cX6_fitsIn 25 = .ok (.iaload, 1) := by decide +kernel
theorem dX6_fitsIn_26 : decode cX6_fitsIn 26 = .ok (.if_icmp .lt 7, 3) := by decide +kernel
theorem dX6_fitsIn_29 : decode cX6_fitsIn 29 = .ok (.iconst 1, 1) := by decide +kernel
theorem dX6_fitsIn_30 : decode cX6_fitsIn 30 = .ok (.goto 4, 3) := by decide +kernel
theorem dX6_fitsIn_33 : decode cX6_fitsIn 33 = .ok (.iconst 0, 1) := by decide +kernel
theorem dX6_fitsIn_34 : decode cX6_fitsIn 34 = .ok (.ireturn, 1) := by decide +kernel
theorem dX6_fitsNow_0 : decode cX6_fitsNow 0 = .ok (.aload_n 0, 1) := by decide +kernel
theorem dX6_fitsNow_1 : decode cX6_fitsNow 1 = .ok (.getfield 24, 3) := by decide +kernel
theorem dX6_fitsNow_4 : decode cX6_fitsNow 4 = .ok (.bipush 6, 2) := by decide +kernel
theorem dX6_fitsNow_6 : decode cX6_fitsNow 6 = .ok (.iload_n 1, 1) := by decide +kernel
theorem dX6_fitsNow_7 : decode cX6_fitsNow 7 = .ok (.imul, 1) := by decide +kernel
theorem dX6_fitsNow_8 : decode cX6_fitsNow 8 = .ok (.iconst 5, 1) := by decide +kernel
theorem dX6_fitsNow_9 : decode cX6_fitsNow 9 = .ok (.iadd, 1) := by decide +kernel
theorem dX6_fitsNow_10 : decode cX6_fitsNow 10 = .ok (.iaload, 1) := by decide +kernel
theorem dX6_fitsNow_11 : decode cX6_fitsNow 11 = .ok (.ifCond .le 16, 3) := by decide +kernel
theorem dX6_fitsNow_14 : decode cX6_fitsNow 14 = .ok (.aload_n 0, 1) := by decide +kernel
theorem dX6_fitsNow_15 : decode cX6_fitsNow 15 = .ok (.iconst 0, 1) := by decide +kernel
theorem dX6_fitsNow_16 : decode cX6_fitsNow 16 = .ok (.iload_n 1, 1) := by decide +kernel
theorem dX6_fitsNow_17 : decode cX6_fitsNow 17 = .ok (.invokevirtual 96, 3) := by decide +kernel
theorem dX6_fitsNow_20 : decode cX6_fitsNow 20 = .ok (.ifCond .eq 7, 3) := by decide +kernel
theorem dX6_fitsNow_23 : decode cX6_fitsNow 23 = .ok (.iconst 1, 1) := by decide +kernel
theorem dX6_fitsNow_24 : decode cX6_fitsNow 24 = .ok (.goto 4, 3) := by decide +kernel
theorem dX6_fitsNow_27 : decode cX6_fitsNow 27 = .ok (.iconst 0, 1) := by decide +kernel
theorem dX6_fitsNow_28 : decode cX6_fitsNow 28 = .ok (.ireturn, 1) := by decide +kernel
theorem dX6_isAllowedNow_0 : decode cX6_isAllowedNow 0 = .ok (.iconst 1, 1) := by decide +kernel
theorem dX6_isAllowedNow_1 : decode cX6_isAllowedNow 1 = .ok (.istore_n 2, 1) := by decide +kernel
theorem dX6_isAllowedNow_2 : decode cX6_isAllowedNow 2 = .ok (.iconst 0, 1) := by decide +kernel
theorem dX6_isAllowedNow_3 : decode cX6_isAllowedNow 3 = .ok (.istore_n 3, 1) := by decide +kernel
theorem dX6_isAllowedNow_4 : decode cX6_isAllowedNow 4 = .ok (.iload_n 3, 1) := by decide +kernel
theorem dX6_isAllowedNow_5 : decode cX6_isAllowedNow 5 = .ok (.aload_n 0, 1) := by decide +kernel
theorem dX6_isAllowedNow_6 : decode cX6_isAllowedNow 6 = .ok (.getfield 52, 3) := by decide +kernel
theorem dX6_isAllowedNow_9 : decode cX6_isAllowedNow 9 = .ok (.if_icmp .ge 112, 3) := by decide +kernel
theorem dX6_isAllowedNow_12 : decode cX6_isAllowedNow 12 = .ok (.iload_n 1, 1) := by decide +kernel
theorem dX6_isAllowedNow_13 : decode cX6_isAllowedNow 13 = .ok (.iload_n 3, 1) := by decide +kernel
theorem dX6_isAllowedNow_14 : decode cX6_isAllowedNow 14 = .ok (.invokestatic 86, 3) := by decide +kernel
theorem dX6_isAllowedNow_17 : decode cX6_isAllowedNow 17 = .ok (.ifCond .ne 6, 3) := by decide +kernel
theorem dX6_isAllowedNow_20 : decode cX6_isAllowedNow 20 = .ok (.goto 95, 3) := by decide +kernel
theorem dX6_isAllowedNow_23 : decode cX6_isAllowedNow 23 = .ok (.iload_n 2, 1) := by decide +kernel
theorem dX6_isAllowedNow_24 : decode cX6_isAllowedNow 24 = .ok (.ifCond .eq 15, 3) := by decide +kernel
theorem dX6_isAllowedNow_27 : decode cX6_isAllowedNow 27 = .ok (.aload_n 0, 1) := by decide +kernel
theorem dX6_isAllowedNow_28 : decode cX6_isAllowedNow 28 = .ok (.iload_n 3, 1) := by decide +kernel
theorem dX6_isAllowedNow_29 : decode cX6_isAllowedNow 29 = .ok (.invokevirtual 99, 3) := by decide +kernel
theorem dX6_isAllowedNow_32 : decode cX6_isAllowedNow 32 = .ok (.ifCond .eq 7, 3) := by decide +kernel
theorem dX6_isAllowedNow_35 : decode cX6_isAllowedNow 35 = .ok (.iconst 1, 1) := by decide +kernel
theorem dX6_isAllowedNow_36 : decode cX6_isAllowedNow 36 = .ok (.goto 4, 3) := by decide +kernel
theorem dX6_isAllowedNow_39 : decode cX6_isAllowedNow 39 = .ok (.iconst 0, 1) := by decide +kernel
theorem dX6_isAllowedNow_40 : decode cX6_isAllowedNow 40 = .ok (.istore_n 2, 1) := by decide +kernel
theorem dX6_isAllowedNow_41 : decode cX6_isAllowedNow 41 = .ok (.iconst 0, 1) := by decide +kernel
theorem dX6_isAllowedNow_42 : decode cX6_isAllowedNow 42 = .ok (.istore 4, 2) := by decide +kernel
theorem dX6_isAllowedNow_44 : decode cX6_isAllowedNow 44 = .ok (.iload 4, 2) := by decide +kernel
theorem dX6_isAllowedNow_46 : decode cX6_isAllowedNow 46 = .ok (.iload_n 3, 1) := by decide +kernel
theorem dX6_isAllowedNow_47 : decode cX6_isAllowedNow 47 = .ok (.if_icmp .ge 68, 3) := by decide +kernel
theorem dX6_isAllowedNow_50 : decode cX6_isAllowedNow 50 = .ok (.iload_n 2, 1) := by decide +kernel
theorem dX6_isAllowedNow_51 : decode cX6_isAllowedNow 51 = .ok (.ifCond .eq 56, 3) := by decide +kernel
theorem dX6_isAllowedNow_54 : decode cX6_isAllowedNow 54 = .ok (.iload_n 1, 1) := by decide +kernel
theorem dX6_isAllowedNow_55 : decode cX6_isAllowedNow 55 = .ok (.iload 4, 2) := by decide +kernel
theorem dX6_isAllowedNow_57 : decode cX6_isAllowedNow 57 = .ok (.invokestatic 86, 3) := by decide +kernel
theorem dX6_isAllowedNow_60 : decode cX6_isAllowedNow 60 = .ok (.ifCond .eq 43, 3) := by decide +kernel
theorem dX6_isAllowedNow_63 : decode cX6_isAllowedNow 63 = .ok (.aload_n 0, 1) := by decide +kernel
theorem dX6_isAllowedNow_64 : decode cX6_isAllowedNow 64 = .ok (.getfield 24, 3) := by decide +kernel
theorem dX6_isAllowedNow_67 : decode cX6_isAllowedNow 67 = .ok (.bipush 6, 2) := by decide +kernel
theorem dX6_isAllowedNow_69 : decode cX6_isAllowedNow 69 = .ok (.iload_n 3, 1) := by decide +kernel
theorem dX6_isAllowedNow_70 : decode cX6_isAllowedNow 70 = .ok (.imul, 1) := by decide +kernel
theorem dX6_isAllowedNow_71 : decode cX6_isAllowedNow 71 = .ok (.iconst 4, 1) := by decide +kernel
theorem dX6_isAllowedNow_72 : decode cX6_isAllowedNow 72 = .ok (.iadd, 1) := by decide +kernel
theorem dX6_isAllowedNow_73 : decode cX6_isAllowedNow 73 = .ok (.iaload, 1) := by decide +kernel
theorem dX6_isAllowedNow_74 : decode cX6_isAllowedNow 74 = .ok (.ifCond .eq 29, 3) := by decide +kernel
theorem dX6_isAllowedNow_77 : decode cX6_isAllowedNow 77 = .ok (.aload_n 0, 1) := by decide +kernel
theorem dX6_isAllowedNow_78 : decode cX6_isAllowedNow 78 = .ok (.getfield 24, 3) := by decide +kernel
theorem dX6_isAllowedNow_81 : decode cX6_isAllowedNow 81 = .ok (.bipush 6, 2) := by decide +kernel
theorem dX6_isAllowedNow_83 : decode cX6_isAllowedNow 83 = .ok (.iload_n 3, 1) := by decide +kernel
theorem dX6_isAllowedNow_84 : decode cX6_isAllowedNow 84 = .ok (.imul, 1) := by decide +kernel
theorem dX6_isAllowedNow_85 : decode cX6_isAllowedNow 85 = .ok (.iconst 4, 1) := by decide +kernel
theorem dX6_isAllowedNow_86 : decode cX6_isAllowedNow 86 = .ok (.iadd, 1) := by decide +kernel
theorem dX6_isAllowedNow_87 : decode cX6_isAllowedNow 87 = .ok (.iaload, 1) := by decide +kernel
theorem dX6_isAllowedNow_88 : decode cX6_isAllowedNow 88 = .ok (.aload_n 0, 1) := by decide +kernel
theorem dX6_isAllowedNow_89 : decode cX6_isAllowedNow 89 = .ok (.getfield 24, 3) := by decide +kernel
theorem dX6_isAllowedNow_92 : decode cX6_isAllowedNow 92 = .ok (.bipush 6, 2) := by decide +kernel
theorem dX6_isAllowedNow_94 : decode cX6_isAllowedNow 94 = .ok (.iload 4, 2) := by decide +kernel
theorem dX6_isAllowedNow_96 : decode cX6_isAllowedNow 96 = .ok (.imul, 1) := by decide +kernel
theorem dX6_isAllowedNow_97 : decode cX6_isAllowedNow 97 = .ok (.iconst 4, 1) := by decide +kernel
theorem dX6_isAllowedNow_98 : decode cX6_isAllowedNow 98 = .ok (.iadd, 1) := by decide +kernel
theorem dX6_isAllowedNow_99 : decode cX6_isAllowedNow 99 = .ok (.iaload, 1) := by decide +kernel
theorem dX6_isAllowedNow_100 : decode cX6_isAllowedNow 100 = .ok (.if_icmp .eq 7, 3) := by decide +kernel
theorem dX6_isAllowedNow_103 : decode cX6_isAllowedNow 103 = .ok (.iconst 1, 1) := by decide +kernel
theorem dX6_isAllowedNow_104 : decode cX6_isAllowedNow 104 = .ok (.goto 4, 3) := by decide +kernel
theorem dX6_isAllowedNow_107 : decode cX6_isAllowedNow 107 = .ok (.iconst 0, 1) := by decide +kernel
theorem dX6_isAllowedNow_108 : decode cX6_isAllowedNow 108 = .ok (.istore_n 2, 1) := by decide +kernel
theorem dX6_isAllowedNow_109 : decode cX6_isAllowedNow 109 = .ok (.iinc 4 1, 3) := by decide +kernel
theorem dX6_isAllowedNow_112 : decode cX6_isAllowedNow 112 = .ok (.goto (-68), 3) := by decide +kernel
theorem dX6_isAllowedNow_115 : decode cX6_isAllowedNow 115 = .ok (.iinc 3 1, 3) := by decide +kernel
theorem dX6_isAllowedNow_118 : decode cX6_isAllowedNow 118 = .ok (.goto (-114), 3) := by decide +kernel
theorem dX6_isAllowedNow_121 : decode cX6_isAllowedNow 121 = .ok (.iload_n 2, 1) := by decide +kernel
theorem dX6_isAllowedNow_122 : decode cX6_isAllowedNow 122 = .ok (.ireturn, 1) := by decide +kernel
theorem dX6_matching_0 : decode cX6_matching 0 = .ok (.aload_n 0, 1) := by decide +kernel
theorem dX6_matching_1 : decode cX6_matching 1 = .ok (.iconst 0, 1) := by decide +kernel
theorem dX6_matching_2 : decode cX6_matching 2 = .ok (.putfield 42, 3) := by decide +kernel
theorem dX6_matching_5 : decode cX6_matching 5 = .ok (.aload_n 0, 1) := by decide +kernel
theorem dX6_matching_6 : decode cX6_matching 6 = .ok (.iload_n 1, 1) := by decide +kernel
theorem dX6_matching_7 : decode cX6_matching 7 = .ok (.invokevirtual 83, 3) := by decide +kernel
theorem dX6_matching_10 : decode cX6_matching 10 = .ok (.ifCond .eq 12, 3) := by decide +kernel
theorem dX6_matching_13 : decode cX6_matching 13 = .ok (.aload_n 0, 1) := by decide +kernel
theorem dX6_matching_14 : decode cX6_matching 14 = .ok (.iconst 0, 1) := by decide +kernel
theorem dX6_matching_15 : decode cX6_matching 15 = .ok (.iload_n 1, 1) := by decide +kernel
theorem dX6_matching_16 : decode cX6_matching 16 = .ok (.invokevirtual 92, 3) := by decide +kernel
theorem dX6_matching_19 : decode cX6_matching 19 = .ok (.goto 8, 3) := by decide +kernel
theorem dX6_matching_22 : decode cX6_matching 22 = .ok (.aload_n 0, 1) := by decide +kernel
theorem dX6_matching_23 : decode cX6_matching 23 = .ok (.iconst 1, 1) := by decide +kernel
theorem dX6_matching_24 : decode cX6_matching 24 = .ok (.invokevirtual 58, 3) := by decide +kernel
theorem dX6_matching_27 : decode cX6_matching 27 = .ok (.ireturn, 1) := by decide +kernel
theorem dX6_fits_0 : decode cX6_fits 0 = .ok (.aload_n 0, 1) := by decide +kernel
theorem dX6_fits_1 : decode cX6_fits 1 = .ok (.aload_n 0, 1) := by decide +kernel
theorem dX6_fits_2 : decode cX6_fits 2 = .ok (.iload_n 1, 1) := by decide +kernel
theorem dX6_fits_3 : decode cX6_fits 3 = .ok (.invokevirtual 83, 3) := by decide +kernel
theorem dX6_fits_6 : decode cX6_fits 6 = .ok (.ifCond .eq 7, 3) := by decide +kernel
theorem dX6_fits_9 : decode cX6_fits 9 = .ok (.iconst 0, 1) := by decide +kernel
theorem dX6_fits_10 : decode cX6_fits 10 = .ok (.goto 4, 3) := by decide +kernel
theorem dX6_fits_13 : decode cX6_fits 13 = .ok (.iconst 1, 1) := by decide +kernel
theorem dX6_fits_14 : decode cX6_fits 14 = .ok (.putfield 42, 3) := by decide +kernel
theorem dX6_fits_17 : decode cX6_fits 17 = .ok (.aload_n 0, 1) := by decide +kernel
theorem dX6_fits_18 : decode cX6_fits 18 = .ok (.getfield 42, 3) := by decide +kernel
theorem dX6_fits_21 : decode cX6_fits 21 = .ok (.ifCond .ne 15, 3) := by decide +kernel
theorem dX6_fits_24 : decode cX6_fits 24 = .ok (.aload_n 0, 1) := by decide +kernel
theorem dX6_fits_25 : decode cX6_fits 25 = .ok (.iload_n 1, 1) := by decide +kernel
theorem dX6_fits_26 : decode cX6_fits 26 = .ok (.invokevirtual 99, 3) := by decide +kernel
theorem dX6_fits_29 : decode cX6_fits 29 = .ok (.ifCond .eq 7, 3) := by decide +kernel
theorem dX6_fits_32 : decode cX6_fits 32 = .ok (.iconst 1, 1) := by decide +kernel
theorem dX6_fits_33 : decode cX6_fits 33 = .ok (.goto 4, 3) := by decide +kernel
theorem dX6_fits_36 : decode cX6_fits 36 = .ok (.iconst 0, 1) := by decide +kernel
theorem dX6_fits_37 : decode cX6_fits 37 = .ok (.ireturn, 1) := by decide +kernel
theorem dX6_missing_0 : decode cX6_missing 0 = .ok (.aload_n 0, 1) := by decide +kernel
theorem dX6_missing_1 : decode cX6_missing 1 = .ok (.iconst 0, 1) := by decide +kernel
theorem dX6_missing_2 : decode cX6_missing 2 = .ok (.putfield 42, 3) := by decide +kernel
theorem dX6_missing_5 : decode cX6_missing 5 = .ok (.aload_n 0, 1) := by decide +kernel
theorem dX6_missing_6 : decode cX6_missing 6 = .ok (.iload_n 1, 1) := by decide +kernel
theorem dX6_missing_7 : decode cX6_missing 7 = .ok (.invokevirtual 83, 3) := by decide +kernel
theorem dX6_missing_10 : decode cX6_missing 10 = .ok (.ifCond .eq 28, 3) := by decide +kernel
theorem dX6_missing_13 : decode cX6_missing 13 = .ok (.iconst 0, 1) := by decide +kernel
theorem dX6_missing_14 : decode cX6_missing 14 = .ok (.aload_n 0, 1) := by decide +kernel
theorem dX6_missing_15 : decode cX6_missing 15 = .ok (.getfield 24, 3) := by decide +kernel
theorem dX6_missing_18 : decode cX6_missing 18 = .ok (.bipush 6, 2) := by decide +kernel
theorem dX6_missing_20 : decode cX6_missing 20 = .ok (.iload_n 1, 1) := by decide +kernel
theorem dX6_missing_21 : decode cX6_missing 21 = .ok (.imul, 1) := by decide +kernel
theorem dX6_missing_22 : decode cX6_missing 22 = .ok (.iconst 3, 1) := by decide +kernel
theorem dX6_missing_23 : decode cX6_missing 23 = .ok (.iadd, 1) := by decide +kernel
theorem dX6_missing_24 : decode cX6_missing 24 = .ok (.iaload, 1) := by decide +kernel
theorem dX6_missing_25 : decode cX6_missing 25 = .ok (.aload_n 0, 1) := by decide +kernel
theorem dX6_missing_26 : decode cX6_missing 26 = .ok (.iconst 0, 1) := by decide +kernel
theorem dX6_missing_27 : decode cX6_missing 27 = .ok (.iload_n 1, 1) := by decide +kernel
theorem dX6_missing_28 : decode cX6_missing 28 = .ok (.invokevirtual 92, 3) := by decide +kernel
theorem dX6_missing_31 : decode cX6_missing 31 = .ok (.isub, 1) := by decide +kernel
theorem dX6_missing_32 : decode cX6_missing 32 = .ok (.invokestatic 102, 3) := by decide +kernel
theorem dX6_missing_35 : decode cX6_missing 35 = .ok (.goto 8, 3) := by decide +kernel
theorem dX6_missing_38 : decode cX6_missing 38 = .ok (.aload_n 0, 1) := by decide +kernel
theorem dX6_missing_39 : decode cX6_missing 39 = .ok (.iconst 1, 1) := by decide +kernel
theorem dX6_missing_40 : decode cX6_missing 40 = .ok (.invokevirtual 58, 3) := by decide +kernel
theorem dX6_missing_43 : decode cX6_missing 43 = .ok (.ireturn, 1) := by decide +kernel
theorem dX6_isAllowed_0 : decode cX6_isAllowed 0 = .ok (.aload_n 0, 1) := by decide +kernel
theorem dX6_isAllowed_1 : decode cX6_isAllowed 1 = .ok (.aload_n 0, 1) := by decide +kernel
theorem dX6_isAllowed_2 : decode cX6_isAllowed 2 = .ok (.iload_n 1, 1) := by decide +kernel
theorem dX6_isAllowed_3 : decode cX6_isAllowed 3 = .ok (.invokevirtual 107, 3) := by decide +kernel
theorem dX6_isAllowed_6 : decode cX6_isAllowed 6 = .ok (.ifCond .eq 7, 3) := by decide +kernel
theorem dX6_isAllowed_9 : decode cX6_isAllowed 9 = .ok (.iconst 0, 1) := by decide +kernel
theorem dX6_isAllowed_10 : decode cX6_isAllowed 10 = .ok (.goto 4, 3) := by decide +kernel
theorem dX6_isAllowed_13 : decode cX6_isAllowed 13 = .ok (.iconst 1, 1) := by decide +kernel
theorem dX6_isAllowed_14 : decode cX6_isAllowed 14 = .ok (.putfield 42, 3) := by decide +kernel
theorem dX6_isAllowed_17 : decode cX6_isAllowed 17 = .ok (.aload_n 0, 1) := by decide +kernel
theorem dX6_isAllowed_18 : decode cX6_isAllowed 18 = .ok (.getfield 42, 3) := by decide +kernel
theorem dX6_isAllowed_21 : decode cX6_isAllowed 21 = .ok (.ifCond .ne 15, 3) := by decide +kernel
theorem dX6_isAllowed_24 : decode cX6_isAllowed 24 = .ok (.aload_n 0, 1) := by decide +kernel
theorem dX6_isAllowed_25 : decode cX6_isAllowed 25 = .ok (.iload_n 1, 1) := by decide +kernel
theorem dX6_isAllowed_26 : decode cX6_isAllowed 26 = .ok (.invokevirtual 110, 3) := by decide +kernel
theorem dX6_isAllowed_29 : decode cX6_isAllowed 29 = .ok (.ifCond .eq 7, 3) := by decide +kernel
theorem dX6_isAllowed_32 : decode cX6_isAllowed 32 = .ok (.iconst 1, 1) := by decide +kernel
theorem dX6_isAllowed_33 : decode cX6_isAllowed 33 = .ok (.goto 4, 3) := by decide +kernel
theorem dX6_isAllowed_36 : decode cX6_isAllowed 36 = .ok (.iconst 0, 1) := by decide +kernel
theorem dX6_isAllowed_37 : decode cX6_isAllowed 37 = .ok (.ireturn, 1) := by decide +kernel
theorem dX6_lay_0 : decode cX6_lay 0 = .ok (.aload_n 0, 1) := by decide +kernel
theorem dX6_lay_1 : decode cX6_lay 1 = .ok (.iconst 0, 1) := by decide +kernel
theorem dX6_lay_2 : decode cX6_lay 2 = .ok (.putfield 113, 3) := by decide +kernel
theorem dX6_lay_5 : decode cX6_lay 5 = .ok (.iconst 0, 1) := by decide +kernel
theorem dX6_lay_6 : decode cX6_lay 6 = .ok (.istore_n 2, 1) := by decide +kernel
theorem dX6_lay_7 : decode cX6_lay 7 = .ok (.iload_n 2, 1) := by decide +kernel
theorem dX6_lay_8 : decode cX6_lay 8 = .ok (.aload_n 0, 1) := by decide +kernel
theorem dX6_lay_9 : decode cX6_lay 9 = .ok (.getfield 45, 3) := by decide +kernel
theorem dX6_lay_12 : decode cX6_lay 12 = .ok (.if_icmp .ge 72, 3) := by decide +kernel
theorem dX6_lay_15 : decode cX6_lay 15 = .ok (.iconst 0, 1) := by decide +kernel
theorem dX6_lay_16 : decode cX6_lay 16 = .ok (.istore_n 3, 1) := by decide +kernel
theorem dX6_lay_17 : decode cX6_lay 17 = .ok (.iload_n 3, 1) := by decide +kernel
theorem dX6_lay_18 : decode cX6_lay 18 = .ok (.aload_n 0, 1) := by decide +kernel
theorem dX6_lay_19 : decode cX6_lay 19 = .ok (.getfield 13, 3) := by decide +kernel
theorem dX6_lay_22 : decode cX6_lay 22 = .ok (.bipush 10, 2) := by decide +kernel
theorem dX6_lay_24 : decode cX6_lay 24 = .ok (.iload_n 1, 1) := by decide +kernel
theorem dX6_lay_25 : decode cX6_lay 25 = .ok (.imul, 1) := by decide +kernel
theorem dX6_lay_26 : decode cX6_lay 26 = .ok (.iload_n 2, 1) := by decide +kernel
theorem dX6_lay_27 : decode cX6_lay 27 = .ok (.iadd, 1) := by decide +kernel
theorem dX6_lay_28 : decode cX6_lay 28 = .ok (.iaload, 1) := by decide +kernel
theorem dX6_lay_29 : decode cX6_lay 29 = .ok (.if_icmp .ge 49, 3) := by decide +kernel
theorem dX6_lay_32 : decode cX6_lay 32 = .ok (.aload_n 0, 1) := by decide +kernel
theorem dX6_lay_33 : decode cX6_lay 33 = .ok (.getfield 36, 3) := by decide +kernel
theorem dX6_lay_36 : decode cX6_lay 36 = .ok (.aload_n 0, 1) := by decide +kernel
theorem dX6_lay_37 : decode cX6_lay 37 = .ok (.getfield 113, 3) := by decide +kernel
theorem dX6_lay_40 : decode cX6_lay 40 = .ok (.iload_n 2, 1) := by decide +kernel
theorem dX6_lay_41 : decode cX6_lay 41 = .ok (.iastore, 1) := by decide +kernel
theorem dX6_lay_42 : decode cX6_lay 42 = .ok (.aload_n 0, 1) := by decide +kernel
theorem dX6_lay_43 : decode cX6_lay 43 = .ok (.getfield 39, 3) := by decide +kernel
theorem dX6_lay_46 : decode cX6_lay 46 = .ok (.aload_n 0, 1) := by decide +kernel
theorem dX6_lay_47 : decode cX6_lay 47 = .ok (.getfield 113, 3) := by decide +kernel
theorem dX6_lay_50 : decode cX6_lay 50 = .ok (.aload_n 0, 1) := by decide +kernel
theorem dX6_lay_51 : decode cX6_lay 51 = .ok (.getfield 16, 3) := by decide +kernel
theorem dX6_lay_54 : decode cX6_lay 54 = .ok (.bipush 10, 2) := by decide +kernel
theorem dX6_lay_56 : decode cX6_lay 56 = .ok (.iload_n 1, 1) := by decide +kernel
theorem dX6_lay_57 : decode cX6_lay 57 = .ok (.imul, 1) := by decide +kernel
theorem dX6_lay_58 : decode cX6_lay 58 = .ok (.iload_n 2, 1) := by decide +kernel
theorem dX6_lay_59 : decode cX6_lay 59 = .ok (.iadd, 1) := by decide +kernel
theorem dX6_lay_60 : decode cX6_lay 60 = .ok (.iaload, 1) := by decide +kernel
theorem dX6_lay_61 : decode cX6_lay 61 = .ok (.iastore, 1) := by decide +kernel
theorem dX6_lay_62 : decode cX6_lay 62 = .ok (.aload_n 0, 1) := by decide +kernel
theorem dX6_lay_63 : decode cX6_lay 63 = .ok (.dup, 1) := by decide +kernel
theorem dX6_lay_64 : decode cX6_lay 64 = .ok (.getfield 113, 3) := by decide +kernel
theorem dX6_lay_67 : decode cX6_lay 67 = .ok (.iconst 1, 1) := by decide +kernel
theorem dX6_lay_68 : decode cX6_lay 68 = .ok (.iadd, 1) := by decide +kernel
theorem dX6_lay_69 : decode cX6_lay 69 = .ok (.putfield 113, 3) := by decide +kernel
theorem dX6_lay_72 : decode cX6_lay 72 = .ok (.iinc 3 1, 3) := by decide +kernel
theorem dX6_lay_75 : decode cX6_lay 75 = .ok (.goto (-58), 3) := by decide +kernel
theorem dX6_lay_78 : decode cX6_lay 78 = .ok (.iinc 2 1, 3) := by decide +kernel
theorem dX6_lay_81 : decode cX6_lay 81 = .ok (.goto (-74), 3) := by decide +kernel
theorem dX6_lay_84 : decode cX6_lay 84 = .ok (.return_, 1) := by decide +kernel
theorem dX6_takePercent_0 : decode cX6_takePercent 0 = .ok (.iconst 0, 1) := by decide +kernel
theorem dX6_takePercent_1 : decode cX6_takePercent 1 = .ok (.istore_n 3, 1) := by decide +kernel
theorem dX6_takePercent_2 : decode cX6_takePercent 2 = .ok (.iload_n 3, 1) := by decide +kernel
theorem dX6_takePercent_3 : decode cX6_takePercent 3 = .ok (.aload_n 0, 1) := by decide +kernel
theorem dX6_takePercent_4 : decode cX6_takePercent 4 = .ok (.getfield 113, 3) := by decide +kernel
theorem dX6_takePercent_7 : decode cX6_takePercent 7 = .ok (.if_icmp .ge 43, 3) := by decide +kernel
theorem dX6_takePercent_10 : decode cX6_takePercent 10 = .ok (.aload_n 0, 1) := by decide +kernel
theorem dX6_takePercent_11 : decode cX6_takePercent 11 = .ok (.iload_n 1, 1) := by decide +kernel
theorem dX6_takePercent_12 : decode cX6_takePercent 12 = .ok (.aload_n 0, 1) := by decide +kernel
theorem dX6_takePercent_13 : decode cX6_takePercent 13 = .ok (.getfield 36, 3) := by decide +kernel
theorem dX6_takePercent_16 : decode cX6_takePercent 16 = .ok (.iload_n 3, 1) := by decide +kernel
theorem dX6_takePercent_17 : decode cX6_takePercent 17 = .ok (.iaload, 1) := by decide +kernel
theorem dX6_takePercent_18 : decode cX6_takePercent 18 = .ok (.invokevirtual 89, 3) := by decide +kernel
theorem dX6_takePercent_21 : decode cX6_takePercent 21 = .ok (.ifCond .eq 23, 3) := by decide +kernel
theorem dX6_takePercent_24 : decode cX6_takePercent 24 = .ok (.aload_n 0, 1) := by decide +kernel
theorem dX6_takePercent_25 : decode cX6_takePercent 25 = .ok (.getfield 39, 3) := by decide +kernel
theorem dX6_takePercent_28 : decode cX6_takePercent 28 = .ok (.iload_n 3, 1) := by decide +kernel
theorem dX6_takePercent_29 : decode cX6_takePercent 29 = .ok (.dup2, 1) := by decide +kernel
theorem dX6_takePercent_30 : decode cX6_takePercent 30 = .ok (.iaload, 1) := by decide +kernel
theorem dX6_takePercent_31 : decode cX6_takePercent 31 = .ok (.aload_n 0, 1) := by decide +kernel
theorem dX6_takePercent_32 : decode cX6_takePercent 32 = .ok (.getfield 39, 3) := by decide +kernel
theorem dX6_takePercent_35 : decode cX6_takePercent 35 = .ok (.iload_n 3, 1) := by decide +kernel
theorem dX6_takePercent_36 : decode cX6_takePercent 36 = .ok (.iaload, 1) := by decide +kernel
theorem dX6_takePercent_37 : decode cX6_takePercent 37 = .ok (.iload_n 2, 1) := by decide +kernel
theorem dX6_takePercent_38 : decode cX6_takePercent 38 = .ok (.imul, 1) := by decide +kernel
theorem dX6_takePercent_39 : decode cX6_takePercent 39 = .ok (.bipush 100, 2) := by decide +kernel
theorem dX6_takePercent_41 : decode cX6_takePercent 41 = .ok (.idiv, 1) := by decide +kernel
theorem dX6_takePercent_42 : decode cX6_takePercent 42 = .ok (.isub, 1) := by decide +kernel
theorem dX6_takePercent_43 : decode cX6_takePercent 43 = .ok (.iastore, 1) := by decide +kernel
theorem dX6_takePercent_44 : decode cX6_takePercent 44 = .ok (.iinc 3 1, 3) := by decide +kernel
theorem dX6_takePercent_47 : decode cX6_takePercent 47 = .ok (.goto (-45), 3) := by decide +kernel
theorem dX6_takePercent_50 : decode cX6_takePercent 50 = .ok (.return_, 1) := by decide +kernel
theorem dX6_takeAmount_0 : decode cX6_takeAmount 0 = .ok (.lconst 0, 1) := by decide +kernel
theorem dX6_takeAmount_1 : decode cX6_takeAmount 1 = .ok (.lstore_n 3, 1) := by decide +kernel
theorem dX6_takeAmount_2 : decode cX6_takeAmount 2 = .ok (.iconst 0, 1) := by decide +kernel
theorem dX6_takeAmount_3 : decode cX6_takeAmount 3 = .ok (.istore 5, 2) := by decide +kernel
theorem dX6_takeAmount_5 : decode cX6_takeAmount 5 = .ok (.iload 5, 2) := by decide +kernel
theorem dX6_takeAmount_7 : decode cX6_takeAmount 7 = .ok (.aload_n 0, 1) := by decide +kernel
theorem dX6_takeAmount_8 : decode cX6_takeAmount 8 = .ok (.getfield 113, 3) := by decide +kernel
theorem dX6_takeAmount_11 : decode cX6_takeAmount 11 = .ok (.if_icmp .ge 39, 3) := by decide +kernel
theorem dX6_takeAmount_14 : decode cX6_takeAmount 14 = .ok (.lload_n 3, 1) := by decide +kernel
theorem dX6_takeAmount_15 : decode cX6_takeAmount 15 = .ok (.aload_n 0, 1) := by decide +kernel
theorem dX6_takeAmount_16 : decode cX6_takeAmount 16 = .ok (.iload_n 1, 1) := by decide +kernel
theorem dX6_takeAmount_17 : decode cX6_takeAmount 17 = .ok (.aload_n 0, 1) := by decide +kernel
theorem dX6_takeAmount_18 : decode cX6_takeAmount 18 = .ok (.getfield 36, 3) := by decide +kernel
theorem dX6_takeAmount_21 : decode cX6_takeAmount 21 = .ok (.iload 5, 2) := by decide +kernel
theorem dX6_takeAmount_23 : decode cX6_takeAmount 23 = .ok (.iaload, 1) := by decide +kernel
theorem dX6_takeAmount_24 : decode cX6_takeAmount 24 = .ok (.invokevirtual 89, 3) := by decide +kernel
theorem dX6_takeAmount_27 : decode cX6_takeAmount 27 = .ok (.ifCond .eq 14, 3) := by decide +kernel
theorem dX6_takeAmount_30 : decode cX6_takeAmount 30 = .ok (.aload_n 0, 1) := by decide +kernel
theorem dX6_takeAmount_31 : decode cX6_takeAmount 31 = .ok (.getfield 39, 3) := by decide +kernel
theorem dX6_takeAmount_34 : decode cX6_takeAmount 34 = .ok (.iload 5, 2) := by decide +kernel
theorem dX6_takeAmount_36 : decode cX6_takeAmount 36 = .ok (.iaload, 1) := by decide +kernel
theorem dX6_takeAmount_37 : decode cX6_takeAmount 37 = .ok (.i2l, 1) := by decide +kernel
theorem dX6_takeAmount_38 : decode cX6_takeAmount 38 = .ok (.goto 4, 3) := by decide +kernel
theorem dX6_takeAmount_41 : decode cX6_takeAmount 41 = .ok (.lconst 0, 1) := by decide +kernel
theorem dX6_takeAmount_42 : decode cX6_takeAmount 42 = .ok (.ladd, 1) := by decide +kernel
theorem dX6_takeAmount_43 : decode cX6_takeAmount 43 = .ok (.lstore_n 3, 1) := by decide +kernel
theorem dX6_takeAmount_44 : decode cX6_takeAmount 44 = .ok (.iinc 5 1, 3) := by decide +kernel
theorem dX6_takeAmount_47 : decode cX6_takeAmount 47 = .ok (.goto (-42), 3) := by decide +kernel
theorem dX6_takeAmount_50 : decode cX6_takeAmount 50 = .ok (.lload_n 3, 1) := by decide +kernel
theorem dX6_takeAmount_51 : decode cX6_takeAmount 51 = .ok (.iload_n 2, 1) := by decide +kernel
theorem dX6_takeAmount_52 : decode cX6_takeAmount 52 = .ok (.i2l, 1) := by decide +kernel
theorem dX6_takeAmount_53 : decode cX6_takeAmount 53 = .ok (.invokestatic 116, 3) := by decide +kernel
theorem dX6_takeAmount_56 : decode cX6_takeAmount 56 = .ok (.lstore 5, 2) := by decide +kernel
theorem dX6_takeAmount_58 : decode cX6_takeAmount 58 = .ok (.lload 5, 2) := by decide +kernel
theorem dX6_takeAmount_60 : decode cX6_takeAmount 60 = .ok (.lstore 7, 2) := by decide +kernel
theorem dX6_takeAmount_62 : decode cX6_takeAmount 62 = .ok (.iconst 0, 1) := by decide +kernel
theorem dX6_takeAmount_63 : decode cX6_takeAmount 63 = .ok (.istore 9, 2) := by decide +kernel
theorem dX6_takeAmount_65 : decode cX6_takeAmount 65 = .ok (.iload 9, 2) := by decide +kernel
theorem dX6_takeAmount_67 : decode cX6_takeAmount 67 = .ok (.aload_n 0, 1) := by decide +kernel
theorem dX6_takeAmount_68 : decode cX6_takeAmount 68 = .ok (.getfield 113, 3) := by decide +kernel
theorem dX6_takeAmount_71 : decode cX6_takeAmount 71 = .ok (.if_icmp .ge 69, 3) := by decide +kernel
theorem dX6_takeAmount_74 : decode cX6_takeAmount 74 = .ok (.lload_n 3, 1) := by decide +kernel
theorem dX6_takeAmount_75 : decode cX6_takeAmount 75 = .ok (.lconst 0, 1) := by decide +kernel
theorem dX6_takeAmount_76 : decode cX6_takeAmount 76 = .ok (.lcmp, 1) := by decide +kernel
theorem dX6_takeAmount_77 : decode cX6_takeAmount 77 = .ok (.ifCond .le 63, 3) := by decide +kernel
theorem dX6_takeAmount_80 : decode cX6_takeAmount 80 = .ok (.aload_n 0, 1) := by decide +kernel
theorem dX6_takeAmount_81 : decode cX6_takeAmount 81 = .ok (.iload_n 1, 1) := by decide +kernel
theorem dX6_takeAmount_82 : decode cX6_takeAmount 82 = .ok (.aload_n 0, 1) := by decide +kernel
theorem dX6_takeAmount_83 : decode cX6_takeAmount 83 = .ok (.getfield 36, 3) := by decide +kernel
theorem dX6_takeAmount_86 : decode cX6_takeAmount 86 = .ok (.iload 9, 2) := by decide +kernel
theorem dX6_takeAmount_88 : decode cX6_takeAmount 88 = .ok (.iaload, 1) := by decide +kernel
theorem dX6_takeAmount_89 : decode cX6_takeAmount 89 = .ok (.invokevirtual 89, 3) := by decide +kernel
theorem dX6_takeAmount_92 : decode cX6_takeAmount 92 = .ok (.ifCond .ne 6, 3) := by decide +kernel
theorem dX6_takeAmount_95 : decode cX6_takeAmount 95 = .ok (.goto 39, 3) := by decide +kernel
theorem dX6_takeAmount_98 : decode cX6_takeAmount 98 = .ok (.aload_n 0, 1) := by decide +kernel
theorem dX6_takeAmount_99 : decode cX6_takeAmount 99 = .ok (.getfield 39, 3) := by decide +kernel
theorem dX6_takeAmount_102 : decode cX6_takeAmount 102 = .ok (.iload 9, 2) := by decide +kernel
theorem dX6_takeAmount_104 : decode cX6_takeAmount 104 = .ok (.iaload, 1) := by decide +kernel
theorem dX6_takeAmount_105 : decode cX6_takeAmount 105 = .ok (.i2l, 1) := by decide +kernel
theorem dX6_takeAmount_106 : decode cX6_takeAmount 106 = .ok (.lload 5, 2) := by decide +kernel
theorem dX6_takeAmount_108 : decode cX6_takeAmount 108 = .ok (.lmul, 1) := by decide +kernel
theorem dX6_takeAmount_109 : decode cX6_takeAmount 109 = .ok (.lload_n 3, 1) := by decide +kernel
theorem dX6_takeAmount_110 : decode cX6_takeAmount 110 = .ok (.ldiv, 1) := by decide +kernel
theorem dX6_takeAmount_111 : decode cX6_takeAmount 111 = .ok (.l2i, 1) := by decide +kernel
theorem dX6_takeAmount_112 : decode cX6_takeAmount 112 = .ok (.istore 10, 2) := by decide +kernel
theorem dX6_takeAmount_114 : decode cX6_takeAmount 114 = .ok (.aload_n 0, 1) := by decide +kernel
theorem dX6_takeAmount_115 : decode cX6_takeAmount 115 = .ok (.getfield 39, 3) := by decide +kernel
theorem dX6_takeAmount_118 : decode cX6_takeAmount 118 = .ok (.iload 9, 2) := by decide +kernel
theorem dX6_takeAmount_120 : decode cX6_takeAmount 120 = .ok (.dup2, 1) := by decide +kernel
theorem dX6_takeAmount_121 : decode cX6_takeAmount 121 = .ok (.iaload, 1) := by decide +kernel
theorem dX6_takeAmount_122 : decode cX6_takeAmount 122 = .ok (.iload 10, 2) := by decide +kernel
theorem dX6_takeAmount_124 : decode cX6_takeAmount 124 = .ok (.isub, 1) := by decide +kernel
theorem dX6_takeAmount_125 : decode cX6_takeAmount 125 = .ok (.iastore, 1) := by decide +kernel
theorem dX6_takeAmount_126 : decode cX6_takeAmount 126 = .ok (.lload 7, 2) := by decide +kernel
theorem dX6_takeAmount_128 : decode cX6_takeAmount 128 = .ok (.iload 10, 2) := by decide +kernel
theorem dX6_takeAmount_130 : decode cX6_takeAmount 130 = .ok (.i2l, 1) := by decide +kernel
theorem dX6_takeAmount_131 : decode cX6_takeAmount 131 = .ok (.lsub, 1) := by decide +kernel
theorem dX6_takeAmount_132 : decode cX6_takeAmount 132 = .ok (.lstore 7, 2) := by decide +kernel
theorem dX6_takeAmount_134 : decode cX6_takeAmount 134 = .ok (.iinc 9 1, 3) := by decide +kernel
theorem dX6_takeAmount_137 : decode cX6_takeAmount 137 = .ok (.goto (-72), 3) := by decide +kernel
theorem dX6_takeAmount_140 : decode cX6_takeAmount 140 = .ok (.iconst 0, 1) := by decide +kernel
theorem dX6_takeAmount_141 : decode cX6_takeAmount 141 = .ok (.istore 9, 2) := by decide +kernel
theorem dX6_takeAmount_143 : decode cX6_takeAmount 143 = .ok (.iload 9, 2) := by decide +kernel
theorem dX6_takeAmount_145 : decode cX6_takeAmount 145 = .ok (.aload_n 0, 1) := by decide +kernel
theorem dX6_takeAmount_146 : decode cX6_takeAmount 146 = .ok (.getfield 113, 3) := by decide +kernel
theorem dX6_takeAmount_149 : decode cX6_takeAmount 149 = .ok (.if_icmp .ge 61, 3) := by decide +kernel
theorem dX6_takeAmount_152 : decode cX6_takeAmount 152 = .ok (.lload 7, 2) := by decide +kernel
theorem dX6_takeAmount_154 : decode cX6_takeAmount 154 = .ok (.lconst 0, 1) := by decide +kernel
theorem dX6_takeAmount_155 : decode cX6_takeAmount 155 = .ok (.lcmp, 1) := by decide +kernel
theorem dX6_takeAmount_156 : decode cX6_takeAmount 156 = .ok (.ifCond .le 54, 3) := by decide +kernel
theorem dX6_takeAmount_159 : decode cX6_takeAmount 159 = .ok (.aload_n 0, 1) := by decide +kernel
theorem dX6_takeAmount_160 : decode cX6_takeAmount 160 = .ok (.iload_n 1, 1) := by decide +kernel
theorem dX6_takeAmount_161 : decode cX6_takeAmount 161 = .ok (.aload_n 0, 1) := by decide +kernel
theorem dX6_takeAmount_162 : decode cX6_takeAmount 162 = .ok (.getfield 36, 3) := by decide +kernel
theorem dX6_takeAmount_165 : decode cX6_takeAmount 165 = .ok (.iload 9, 2) := by decide +kernel
theorem dX6_takeAmount_167 : decode cX6_takeAmount 167 = .ok (.iaload, 1) := by decide +kernel
theorem dX6_takeAmount_168 : decode cX6_takeAmount 168 = .ok (.invokevirtual 89, 3) := by decide +kernel
theorem dX6_takeAmount_171 : decode cX6_takeAmount 171 = .ok (.ifCond .eq 33, 3) := by decide +kernel
theorem dX6_takeAmount_174 : decode cX6_takeAmount 174 = .ok (.aload_n 0, 1) := by decide +kernel
theorem dX6_takeAmount_175 : decode cX6_takeAmount 175 = .ok (.getfield 39, 3) := by decide +kernel
theorem dX6_takeAmount_178 : decode cX6_takeAmount 178 = .ok (.iload 9, 2) := by decide +kernel
theorem dX6_takeAmount_180 : decode cX6_takeAmount 180 = .ok (.iaload, 1) := by decide +kernel
theorem dX6_takeAmount_181 : decode cX6_takeAmount 181 = .ok (.ifCond .ne 6, 3) := by decide +kernel
theorem dX6_takeAmount_184 : decode cX6_takeAmount 184 = .ok (.goto 20, 3) := by decide +kernel
theorem dX6_takeAmount_187 : decode cX6_takeAmount 187 = .ok (.aload_n 0, 1) := by decide +kernel
theorem dX6_takeAmount_188 : decode cX6_takeAmount 188 = .ok (.getfield 39, 3) := by decide +kernel
theorem dX6_takeAmount_191 : decode cX6_takeAmount 191 = .ok (.iload 9, 2) := by decide +kernel
theorem dX6_takeAmount_193 : decode cX6_takeAmount 193 = .ok (.dup2, 1) := by decide +kernel
theorem dX6_takeAmount_194 : decode cX6_takeAmount 194 = .ok (.iaload, 1) := by decide +kernel
theorem dX6_takeAmount_195 : decode cX6_takeAmount 195 = .ok (.iconst 1, 1) := by decide +kernel
theorem dX6_takeAmount_196 : decode cX6_takeAmount 196 = .ok (.isub, 1) := by decide +kernel
theorem dX6_takeAmount_197 : decode cX6_takeAmount 197 = .ok (.iastore, 1) := by decide +kernel
theorem dX6_takeAmount_198 : decode cX6_takeAmount 198 = .ok (.lload 7, 2) := by decide +kernel
theorem dX6_takeAmount_200 : decode cX6_takeAmount 200 = .ok (.lconst 1, 1) := by decide +kernel
theorem dX6_takeAmount_201 : decode cX6_takeAmount 201 = .ok (.lsub, 1) := by decide +kernel
theorem dX6_takeAmount_202 : decode cX6_takeAmount 202 = .ok (.lstore 7, 2) := by decide +kernel
theorem dX6_takeAmount_204 : decode cX6_takeAmount 204 = .ok (.iinc 9 1, 3) := by decide +kernel
theorem dX6_takeAmount_207 : decode cX6_takeAmount 207 = .ok (.goto (-64), 3) := by decide +kernel
theorem dX6_takeAmount_210 : decode cX6_takeAmount 210 = .ok (.return_, 1) := by decide +kernel
theorem dX6_takeBundle_0 : decode cX6_takeBundle 0 = .ok (.aload_n 0, 1) := by decide +kernel
theorem dX6_takeBundle_1 : decode cX6_takeBundle 1 = .ok (.getfield 113, 3) := by decide +kernel
theorem dX6_takeBundle_4 : decode cX6_takeBundle 4 = .ok (.newarray .boolean, 2) := by decide +kernel
theorem dX6_takeBundle_6 : decode cX6_takeBundle 6 = .ok (.astore_n 3, 1) := by decide +kernel
theorem dX6_takeBundle_7 : decode cX6_takeBundle 7 = .ok (.iconst 0, 1) := by decide +kernel
theorem dX6_takeBundle_8 : decode cX6_takeBundle 8 = .ok (.istore 4, 2) := by decide +kernel
theorem dX6_takeBundle_10 : decode cX6_takeBundle 10 = .ok (.iload 4, 2) := by decide +kernel
theorem dX6_takeBundle_12 : decode cX6_takeBundle 12 = .ok (.aload_n 0, 1) := by decide +kernel
theorem dX6_takeBundle_13 : decode cX6_takeBundle 13 = .ok (.getfield 113, 3) := by decide +kernel
theorem dX6_takeBundle_16 : decode cX6_takeBundle 16 = .ok (.if_icmp .ge 130, 3) := by decide +kernel
theorem dX6_takeBundle_19 : decode cX6_takeBundle 19 = .ok (.aload_n 0, 1) := by decide +kernel
theorem dX6_takeBundle_20 : decode cX6_takeBundle 20 = .ok (.iload_n 1, 1) := by decide +kernel
theorem dX6_takeBundle_21 : decode cX6_takeBundle 21 = .ok (.aload_n 0, 1) := by decide +kernel
theorem dX6_takeBundle_22 : decode cX6_takeBundle 22 = .ok (.getfield 36, 3) := by decide +kernel
theorem dX6_takeBundle_25 : decode cX6_takeBundle 25 = .ok (.iload 4, 2) := by decide +kernel
theorem dX6_takeBundle_27 : decode cX6_takeBundle 27 = .ok (.iaload, 1) := by decide +kernel
theorem dX6_takeBundle_28 : decode cX6_takeBundle 28 = .ok (.invokevirtual 89, 3) := by decide +kernel
theorem dX6_takeBundle_31 : decode cX6_takeBundle 31 = .ok (.ifCond .ne 6, 3) := by decide +kernel
theorem dX6_takeBundle_34 : decode cX6_takeBundle 34 = .ok (.goto 106, 3) := by decide +kernel
theorem dX6_takeBundle_37 : decode cX6_takeBundle 37 = .ok (.iconst 1, 1) := by decide +kernel
theorem dX6_takeBundle_38 : decode cX6_takeBundle 38 = .ok (.istore 5, 2) := by decide +kernel
theorem dX6_takeBundle_40 : decode cX6_takeBundle 40 = .ok (.iconst 0, 1) := by decide +kernel
theorem dX6_takeBundle_41 : decode cX6_takeBundle 41 = .ok (.istore 6, 2) := by decide +kernel
theorem dX6_takeBundle_43 : decode cX6_takeBundle 43 = .ok (.iload 6, 2) := by decide +kernel
theorem dX6_takeBundle_45 : decode cX6_takeBundle 45 = .ok (.aload_n 0, 1) := by decide +kernel
theorem dX6_takeBundle_46 : decode cX6_takeBundle 46 = .ok (.getfield 113, 3) := by decide +kernel
theorem dX6_takeBundle_49 : decode cX6_takeBundle 49 = .ok (.if_icmp .ge 75, 3) := by decide +kernel
theorem dX6_takeBundle_52 : decode cX6_takeBundle 52 = .ok (.iload 5, 2) := by decide +kernel
theorem dX6_takeBundle_54 : decode cX6_takeBundle 54 = .ok (.aload_n 0, 1) := by decide +kernel
theorem dX6_takeBundle_55 : decode cX6_takeBundle 55 = .ok (.iload_n 1, 1) := by decide +kernel
theorem dX6_takeBundle_56 : decode cX6_takeBundle 56 = .ok (.aload_n 0, 1) := by decide +kernel
theorem dX6_takeBundle_57 : decode cX6_takeBundle 57 = .ok (.getfield 36, 3) := by decide +kernel
theorem dX6_takeBundle_60 : decode cX6_takeBundle 60 = .ok (.iload 6, 2) := by decide +kernel
theorem dX6_takeBundle_62 : decode cX6_takeBundle 62 = .ok (.iaload, 1) := by decide +kernel
theorem dX6_takeBundle_63 : decode cX6_takeBundle 63 = .ok (.invokevirtual 89, 3) := by decide +kernel
theorem dX6_takeBundle_66 : decode cX6_takeBundle 66 = .ok (.ifCond .eq 48, 3) := by decide +kernel
theorem dX6_takeBundle_69 : decode cX6_takeBundle 69 = .ok (.aload_n 0, 1) := by decide +kernel
theorem dX6_takeBundle_70 : decode cX6_takeBundle 70 = .ok (.getfield 39, 3) := by decide +kernel
theorem dX6_takeBundle_73 : decode cX6_takeBundle 73 = .ok (.iload 6, 2) := by decide +kernel
theorem dX6_takeBundle_75 : decode cX6_takeBundle 75 = .ok (.iaload, 1) := by decide +kernel
theorem dX6_takeBundle_76 : decode cX6_takeBundle 76 = .ok (.aload_n 0, 1) := by decide +kernel
theorem dX6_takeBundle_77 : decode cX6_takeBundle 77 = .ok (.getfield 39, 3) := by decide +kernel
theorem dX6_takeBundle_80 : decode cX6_takeBundle 80 = .ok (.iload 4, 2) := by decide +kernel
theorem dX6_takeBundle_82 : decode cX6_takeBundle 82 = .ok (.iaload, 1) := by decide +kernel
theorem dX6_takeBundle_83 : decode cX6_takeBundle 83 = .ok (.if_icmp .gt 27, 3) := by decide +kernel
theorem dX6_takeBundle_86 : decode cX6_takeBundle 86 = .ok (.aload_n 0, 1) := by decide +kernel
theorem dX6_takeBundle_87 : decode cX6_takeBundle 87 = .ok (.getfield 39, 3) := by decide +kernel
theorem dX6_takeBundle_90 : decode cX6_takeBundle 90 = .ok (.iload 6, 2) := by decide +kernel
theorem dX6_takeBundle_92 : decode cX6_takeBundle 92 = .ok (.iaload, 1) := by decide +kernel
theorem dX6_takeBundle_93 : decode cX6_takeBundle 93 = .ok (.aload_n 0, 1) := by decide +kernel
theorem dX6_takeBundle_94 : decode cX6_takeBundle 94 = .ok (.getfield 39, 3) := by decide +kernel
theorem dX6_takeBundle_97 : decode cX6_takeBundle 97 = .ok (.iload 4, 2) := by decide +kernel
theorem dX6_takeBundle_99 : decode cX6_takeBundle 99 = .ok (.iaload, 1) := by decide +kernel
theorem dX6_takeBundle_100 : decode cX6_takeBundle 100 = .ok (.if_icmp .ne 14, 3) := by decide +kernel
theorem dX6_takeBundle_103 : decode cX6_takeBundle 103 = .ok (.iload 6, 2) := by decide +kernel
theorem dX6_takeBundle_105 : decode cX6_takeBundle 105 = .ok (.iload 4, 2) := by decide +kernel
theorem dX6_takeBundle_107 : decode cX6_takeBundle 107 = .ok (.if_icmp .ge 7, 3) := by decide +kernel
theorem dX6_takeBundle_110 : decode cX6_takeBundle 110 = .ok (.iconst 1, 1) := by decide +kernel
theorem dX6_takeBundle_111 : decode cX6_takeBundle 111 = .ok (.goto 4, 3) := by decide +kernel
theorem dX6_takeBundle_114 : decode cX6_takeBundle 114 = .ok (.iconst 0, 1) := by decide +kernel
theorem dX6_takeBundle_115 : decode cX6_takeBundle 115 = .ok (.iadd, 1) := by decide +kernel
theorem dX6_takeBundle_116 : decode cX6_takeBundle 116 = .ok (.istore 5, 2) := by decide +kernel
theorem dX6_takeBundle_118 : decode cX6_takeBundle 118 = .ok (.iinc 6 1, 3) := by decide +kernel
theorem dX6_takeBundle_121 : decode cX6_takeBundle 121 = .ok (.goto (-78), 3) := by decide +kernel
theorem dX6_takeBundle_124 : decode cX6_takeBundle 124 = .ok (.aload_n 3, 1) := by decide +kernel
theorem dX6_takeBundle_125 : decode cX6_takeBundle 125 = .ok (.iload 4, 2) := by decide +kernel
theorem dX6_takeBundle_127 : decode cX6_takeBundle 127 = .ok (.iload 5, 2) := by decide +kernel
theorem dX6_takeBundle_129 : decode cX6_takeBundle 129 = .ok (.iload_n 2, 1) := by decide +kernel
theorem dX6_takeBundle_130 : decode cX6_takeBundle 130 = .ok (.irem, 1) := by decide +kernel
theorem dX6_takeBundle_131 : decode cX6_takeBundle 131 = .ok (.ifCond .ne 7, 3) := by decide +kernel
theorem dX6_takeBundle_134 : decode cX6_takeBundle 134 = .ok (.iconst 1, 1) := by decide +kernel
theorem dX6_takeBundle_135 : decode cX6_takeBundle 135 = .ok (.goto 4, 3) := by decide +kernel
theorem dX6_takeBundle_138 : decode cX6_takeBundle 138 = .ok (.iconst 0, 1) := by decide +kernel
theorem dX6_takeBundle_139 : decode cX6_takeBundle 139 = .ok (.bastore, 1) := by decide +kernel
theorem dX6_takeBundle_140 : decode cX6_takeBundle 140 = .ok (.iinc 4 1, 3) := by decide +kernel
theorem dX6_takeBundle_143 : decode cX6_takeBundle 143 = .ok (.goto (-133), 3) := by decide +kernel
theorem dX6_takeBundle_146 : decode cX6_takeBundle 146 = .ok (.iconst 0, 1) := by decide +kernel
theorem dX6_takeBundle_147 : decode cX6_takeBundle 147 = .ok (.istore 4, 2) := by decide +kernel
theorem dX6_takeBundle_149 : decode cX6_takeBundle 149 = .ok (.iload 4, 2) := by decide +kernel
theorem dX6_takeBundle_151 : decode cX6_takeBundle 151 = .ok (.aload_n 0, 1) := by decide +kernel
theorem dX6_takeBundle_152 : decode cX6_takeBundle 152 = .ok (.getfield 113, 3) := by decide +kernel
theorem dX6_takeBundle_155 : decode cX6_takeBundle 155 = .ok (.if_icmp .ge 24, 3) := by decide +kernel
theorem dX6_takeBundle_158 : decode cX6_takeBundle 158 = .ok (.aload_n 3, 1) := by decide +kernel
theorem dX6_takeBundle_159 : decode cX6_takeBundle 159 = .ok (.iload 4, 2) := by decide +kernel
theorem dX6_takeBundle_161 : decode cX6_takeBundle 161 = .ok (.baload, 1) := by decide +kernel
theorem dX6_takeBundle_162 : decode cX6_takeBundle 162 = .ok (.ifCond .eq 11, 3) := by decide +kernel
theorem dX6_takeBundle_165 : decode cX6_takeBundle 165 = .ok (.aload_n 0, 1) := by decide +kernel
theorem dX6_takeBundle_166 : decode cX6_takeBundle 166 = .ok (.getfield 39, 3) := by decide +kernel
theorem dX6_takeBundle_169 : decode cX6_takeBundle 169 = .ok (.iload 4, 2) := by decide +kernel
theorem dX6_takeBundle_171 : decode cX6_takeBundle 171 = .ok (.iconst 0, 1) := by decide +kernel
theorem dX6_takeBundle_172 : decode cX6_takeBundle 172 = .ok (.iastore, 1) := by decide +kernel
theorem dX6_takeBundle_173 : decode cX6_takeBundle 173 = .ok (.iinc 4 1, 3) := by decide +kernel
theorem dX6_takeBundle_176 : decode cX6_takeBundle 176 = .ok (.goto (-27), 3) := by decide +kernel
theorem dX6_takeBundle_179 : decode cX6_takeBundle 179 = .ok (.return_, 1) := by decide +kernel
theorem dX6_goodsOf_0 : decode cX6_goodsOf 0 = .ok (.aload_n 0, 1) := by decide +kernel
theorem dX6_goodsOf_1 : decode cX6_goodsOf 1 = .ok (.iload_n 1, 1) := by decide +kernel
theorem dX6_goodsOf_2 : decode cX6_goodsOf 2 = .ok (.invokevirtual 120, 3) := by decide +kernel
theorem dX6_goodsOf_5 : decode cX6_goodsOf 5 = .ok (.iconst 0, 1) := by decide +kernel
theorem dX6_goodsOf_6 : decode cX6_goodsOf 6 = .ok (.istore_n 3, 1) := by decide +kernel
theorem dX6_goodsOf_7 : decode cX6_goodsOf 7 = .ok (.iload_n 3, 1) := by decide +kernel
theorem dX6_goodsOf_8 : decode cX6_goodsOf 8 = .ok (.aload_n 0, 1) := by decide +kernel
theorem dX6_goodsOf_9 : decode cX6_goodsOf 9 = .ok (.getfield 52, 3) := by decide +kernel
theorem dX6_goodsOf_12 : decode cX6_goodsOf 12 = .ok (.if_icmp .ge 92, 3) := by decide +kernel
theorem dX6_goodsOf_15 : decode cX6_goodsOf 15 = .ok (.iload_n 2, 1) := by decide +kernel
theorem dX6_goodsOf_16 : decode cX6_goodsOf 16 = .ok (.iload_n 3, 1) := by decide +kernel
theorem dX6_goodsOf_17 : decode cX6_goodsOf 17 = .ok (.invokestatic 86, 3) := by decide +kernel
theorem dX6_goodsOf_20 : decode cX6_goodsOf 20 = .ok (.ifCond .ne 6, 3) := by decide +kernel
theorem dX6_goodsOf_23 : decode cX6_goodsOf 23 = .ok (.goto 75, 3) := by decide +kernel
theorem dX6_goodsOf_26 : decode cX6_goodsOf 26 = .ok (.aload_n 0, 1) := by decide +kernel
theorem dX6_goodsOf_27 : decode cX6_goodsOf 27 = .ok (.getfield 24, 3) := by decide +kernel
theorem dX6_goodsOf_30 : decode cX6_goodsOf 30 = .ok (.bipush 6, 2) := by decide +kernel
theorem dX6_goodsOf_32 : decode cX6_goodsOf 32 = .ok (.iload_n 3, 1) := by decide +kernel
theorem dX6_goodsOf_33 : decode cX6_goodsOf 33 = .ok (.imul, 1) := by decide +kernel
theorem dX6_goodsOf_34 : decode cX6_goodsOf 34 = .ok (.iconst 1, 1) := by decide +kernel
theorem dX6_goodsOf_35 : decode cX6_goodsOf 35 = .ok (.iadd, 1) := by decide +kernel
theorem dX6_goodsOf_36 : decode cX6_goodsOf 36 = .ok (.iaload, 1) := by decide +kernel
theorem dX6_goodsOf_37 : decode cX6_goodsOf 37 = .ok (.istore 4, 2) := by decide +kernel
theorem dX6_goodsOf_39 : decode cX6_goodsOf 39 = .ok (.aload_n 0, 1) := by decide +kernel
theorem dX6_goodsOf_40 : decode cX6_goodsOf 40 = .ok (.getfield 24, 3) := by decide +kernel
theorem dX6_goodsOf_43 : decode cX6_goodsOf 43 = .ok (.bipush 6, 2) := by decide +kernel
theorem dX6_goodsOf_45 : decode cX6_goodsOf 45 = .ok (.iload_n 3, 1) := by decide +kernel
theorem dX6_goodsOf_46 : decode cX6_goodsOf 46 = .ok (.imul, 1) := by decide +kernel
theorem dX6_goodsOf_47 : decode cX6_goodsOf 47 = .ok (.iaload, 1) := by decide +kernel
theorem dX6_goodsOf_48 : decode cX6_goodsOf 48 = .ok (.ifCond .ne 10, 3) := by decide +kernel
theorem dX6_goodsOf_51 : decode cX6_goodsOf 51 = .ok (.aload_n 0, 1) := by decide +kernel
theorem dX6_goodsOf_52 : decode cX6_goodsOf 52 = .ok (.iload_n 3, 1) := by decide +kernel
theorem dX6_goodsOf_53 : decode cX6_goodsOf 53 = .ok (.iload 4, 2) := by decide +kernel
theorem dX6_goodsOf_55 : decode cX6_goodsOf 55 = .ok (.invokevirtual 124, 3) := by decide +kernel
theorem dX6_goodsOf_58 : decode cX6_goodsOf 58 = .ok (.aload_n 0, 1) := by decide +kernel
theorem dX6_goodsOf_59 : decode cX6_goodsOf 59 = .ok (.getfield 24, 3) := by decide +kernel
theorem dX6_goodsOf_62 : decode cX6_goodsOf 62 = .ok (.bipush 6, 2) := by decide +kernel
theorem dX6_goodsOf_64 : decode cX6_goodsOf 64 = .ok (.iload_n 3, 1) := by decide +kernel
theorem dX6_goodsOf_65 : decode cX6_goodsOf 65 = .ok (.imul, 1) := by decide +kernel
theorem dX6_goodsOf_66 : decode cX6_goodsOf 66 = .ok (.iaload, 1) := by decide +kernel
theorem dX6_goodsOf_67 : decode cX6_goodsOf 67 = .ok (.iconst 1, 1) := by decide +kernel
theorem dX6_goodsOf_68 : decode cX6_goodsOf 68 = .ok (.if_icmp .ne 10, 3) := by decide +kernel
theorem dX6_goodsOf_71 : decode cX6_goodsOf 71 = .ok (.aload_n 0, 1) := by decide +kernel
theorem dX6_goodsOf_72 : decode cX6_goodsOf 72 = .ok (.iload_n 3, 1) := by decide +kernel
theorem dX6_goodsOf_73 : decode cX6_goodsOf 73 = .ok (.iload 4, 2) := by decide +kernel
theorem dX6_goodsOf_75 : decode cX6_goodsOf 75 = .ok (.invokevirtual 128, 3) := by decide +kernel
theorem dX6_goodsOf_78 : decode cX6_goodsOf 78 = .ok (.aload_n 0, 1) := by decide +kernel
theorem dX6_goodsOf_79 : decode cX6_goodsOf 79 = .ok (.getfield 24, 3) := by decide +kernel
theorem dX6_goodsOf_82 : decode cX6_goodsOf 82 = .ok (.bipush 6, 2) := by decide +kernel
theorem dX6_goodsOf_84 : decode cX6_goodsOf 84 = .ok (.iload_n 3, 1) := by decide +kernel
theorem dX6_goodsOf_85 : decode cX6_goodsOf 85 = .ok (.imul, 1) := by decide +kernel
theorem dX6_goodsOf_86 : decode cX6_goodsOf 86 = .ok (.iaload, 1) := by decide +kernel
theorem dX6_goodsOf_87 : decode cX6_goodsOf 87 = .ok (.iconst 2, 1) := by decide +kernel
theorem dX6_goodsOf_88 : decode cX6_goodsOf 88 = .ok (.if_icmp .ne 10, 3) := by decide +kernel
theorem dX6_goodsOf_91 : decode cX6_goodsOf 91 = .ok (.aload_n 0, 1) := by decide +kernel
theorem dX6_goodsOf_92 : decode cX6_goodsOf 92 = .ok (.iload_n 3, 1) := by decide +kernel
theorem dX6_goodsOf_93 : decode cX6_goodsOf 93 = .ok (.iload 4, 2) := by decide +kernel
theorem dX6_goodsOf_95 : decode cX6_goodsOf 95 = .ok (.invokevirtual 131, 3) := by decide +kernel
theorem dX6_goodsOf_98 : decode cX6_goodsOf 98 = .ok (.iinc 3 1, 3) := by decide +kernel
theorem dX6_goodsOf_101 : decode cX6_goodsOf 101 = .ok (.goto (-94), 3) := by decide +kernel
theorem dX6_goodsOf_104 : decode cX6_goodsOf 104 = .ok (.iconst 0, 1) := by decide +kernel
theorem dX6_goodsOf_105 : decode cX6_goodsOf 105 = .ok (.istore_n 3, 1) := by decide +kernel
theorem dX6_goodsOf_106 : decode cX6_goodsOf 106 = .ok (.iconst 0, 1) := by decide +kernel
theorem dX6_goodsOf_107 : decode cX6_goodsOf 107 = .ok (.istore 4, 2) := by decide +kernel
theorem dX6_goodsOf_109 : decode cX6_goodsOf 109 = .ok (.iload 4, 2) := by decide +kernel
theorem dX6_goodsOf_111 : decode cX6_goodsOf 111 = .ok (.aload_n 0, 1) := by decide +kernel
theorem dX6_goodsOf_112 : decode cX6_goodsOf 112 = .ok (.getfield 113, 3) := by decide +kernel
theorem dX6_goodsOf_115 : decode cX6_goodsOf 115 = .ok (.if_icmp .ge 19, 3) := by decide +kernel
theorem dX6_goodsOf_118 : decode cX6_goodsOf 118 = .ok (.iload_n 3, 1) := by decide +kernel
theorem dX6_goodsOf_119 : decode cX6_goodsOf 119 = .ok (.aload_n 0, 1) := by decide +kernel
theorem dX6_goodsOf_120 : decode cX6_goodsOf 120 = .ok (.getfield 39, 3) := by decide +kernel
theorem dX6_goodsOf_123 : decode cX6_goodsOf 123 = .ok (.iload 4, 2) := by decide +kernel
theorem dX6_goodsOf_125 : decode cX6_goodsOf 125 = .ok (.iaload, 1) := by decide +kernel
theorem dX6_goodsOf_126 : decode cX6_goodsOf 126 = .ok (.iadd, 1) := by decide +kernel
theorem dX6_goodsOf_127 : decode cX6_goodsOf 127 = .ok (.istore_n 3, 1) := by decide +kernel
theorem dX6_goodsOf_128 : decode cX6_goodsOf 128 = .ok (.iinc 4 1, 3) := by decide +kernel
theorem dX6_goodsOf_131 : decode cX6_goodsOf 131 = .ok (.goto (-22), 3) := by decide +kernel
theorem dX6_goodsOf_134 : decode cX6_goodsOf 134 = .ok (.iload_n 3, 1) := by decide +kernel
theorem dX6_goodsOf_135 : decode cX6_goodsOf 135 = .ok (.ireturn, 1) := by decide +kernel
theorem dX6_feeFor_0 : decode cX6_feeFor 0 = .ok (.iload_n 2, 1) := by decide +kernel
theorem dX6_feeFor_1 : decode cX6_feeFor 1 = .ok (.aload_n 0, 1) := by decide +kernel
theorem dX6_feeFor_2 : decode cX6_feeFor 2 = .ok (.getfield 20, 3) := by decide +kernel
theorem dX6_feeFor_5 : decode cX6_feeFor 5 = .ok (.if_icmp .ge 11, 3) := by decide +kernel
theorem dX6_feeFor_8 : decode cX6_feeFor 8 = .ok (.aload_n 0, 1) := by decide +kernel
theorem dX6_feeFor_9 : decode cX6_feeFor 9 = .ok (.iconst 0, 1) := by decide +kernel
theorem dX6_feeFor_10 : decode cX6_feeFor 10 = .ok (.invokevirtual 134, 3) := by decide +kernel
theorem dX6_feeFor_13 : decode cX6_feeFor 13 = .ok (.ifCond .ne 7, 3) := by decide +kernel
theorem dX6_feeFor_16 : decode cX6_feeFor 16 = .ok (.iconst 1, 1) := by decide +kernel
theorem dX6_feeFor_17 : decode cX6_feeFor 17 = .ok (.goto 4, 3) := by decide +kernel
theorem dX6_feeFor_20 : decode cX6_feeFor 20 = .ok (.iconst 0, 1) := by decide +kernel
theorem dX6_feeFor_21 : decode cX6_feeFor 21 = .ok (.istore_n 3, 1) := by decide +kernel
theorem dX6_feeFor_22 : decode cX6_feeFor 22 = .ok (.iconst 0, 1) := by decide +kernel
theorem dX6_feeFor_23 : decode cX6_feeFor 23 = .ok (.istore 4, 2) := by decide +kernel
theorem dX6_feeFor_25 : decode cX6_feeFor 25 = .ok (.iload 4, 2) := by decide +kernel
theorem dX6_feeFor_27 : decode cX6_feeFor 27 = .ok (.aload_n 0, 1) := by decide +kernel
theorem dX6_feeFor_28 : decode cX6_feeFor 28 = .ok (.getfield 52, 3) := by decide +kernel
theorem dX6_feeFor_31 : decode cX6_feeFor 31 = .ok (.if_icmp .ge 42, 3) := by decide +kernel
theorem dX6_feeFor_34 : decode cX6_feeFor 34 = .ok (.iload_n 3, 1) := by decide +kernel
theorem dX6_feeFor_35 : decode cX6_feeFor 35 = .ok (.ifCond .ne 26, 3) := by decide +kernel
theorem dX6_feeFor_38 : decode cX6_feeFor 38 = .ok (.iload_n 1, 1) := by decide +kernel
theorem dX6_feeFor_39 : decode cX6_feeFor 39 = .ok (.iload 4, 2) := by decide +kernel
theorem dX6_feeFor_41 : decode cX6_feeFor 41 = .ok (.invokestatic 86, 3) := by decide +kernel
theorem dX6_feeFor_44 : decode cX6_feeFor 44 = .ok (.ifCond .eq 21, 3) := by decide +kernel
theorem dX6_feeFor_47 : decode cX6_feeFor 47 = .ok (.aload_n 0, 1) := by decide +kernel
theorem dX6_feeFor_48 : decode cX6_feeFor 48 = .ok (.getfield 24, 3) := by decide +kernel
theorem dX6_feeFor_51 : decode cX6_feeFor 51 = .ok (.bipush 6, 2) := by decide +kernel
theorem dX6_feeFor_53 : decode cX6_feeFor 53 = .ok (.iload 4, 2) := by decide +kernel
theorem dX6_feeFor_55 : decode cX6_feeFor 55 = .ok (.imul, 1) := by decide +kernel
theorem dX6_feeFor_56 : decode cX6_feeFor 56 = .ok (.iaload, 1) := by decide +kernel
theorem dX6_feeFor_57 : decode cX6_feeFor 57 = .ok (.iconst 3, 1) := by decide +kernel
theorem dX6_feeFor_58 : decode cX6_feeFor 58 = .ok (.if_icmp .ne 7, 3) := by decide +kernel
theorem dX6_feeFor_61 : decode cX6_feeFor 61 = .ok (.iconst 1, 1) := by decide +kernel
theorem dX6_feeFor_62 : decode cX6_feeFor 62 = .ok (.goto 4, 3) := by decide +kernel
theorem dX6_feeFor_65 : decode cX6_feeFor 65 = .ok (.iconst 0, 1) := by decide +kernel
theorem dX6_feeFor_66 : decode cX6_feeFor 66 = .ok (.istore_n 3, 1) := by decide +kernel
theorem dX6_feeFor_67 : decode cX6_feeFor 67 = .ok (.iinc 4 1, 3) := by decide +kernel
theorem dX6_feeFor_70 : decode cX6_feeFor 70 = .ok (.goto (-45), 3) := by decide +kernel
theorem dX6_feeFor_73 : decode cX6_feeFor 73 = .ok (.iload_n 3, 1) := by decide +kernel
theorem dX6_feeFor_74 : decode cX6_feeFor 74 = .ok (.ifCond .eq 7, 3) := by decide +kernel
theorem dX6_feeFor_77 : decode cX6_feeFor 77 = .ok (.iconst 0, 1) := by decide +kernel
theorem dX6_feeFor_78 : decode cX6_feeFor 78 = .ok (.goto 7, 3) := by decide +kernel
theorem dX6_feeFor_81 : decode cX6_feeFor 81 = .ok (.aload_n 0, 1) := by decide +kernel
theorem dX6_feeFor_82 : decode cX6_feeFor 82 = .ok (.getfield 69, 3) := by decide +kernel
theorem dX6_feeFor_85 : decode cX6_feeFor 85 = .ok (.ireturn, 1) := by decide +kernel
theorem dX6_totalOf_0 : decode cX6_totalOf 0 = .ok (.aload_n 0, 1) := by decide +kernel
theorem dX6_totalOf_1 : decode cX6_totalOf 1 = .ok (.iconst 0, 1) := by decide +kernel
theorem dX6_totalOf_2 : decode cX6_totalOf 2 = .ok (.iload_n 1, 1) := by decide +kernel
theorem dX6_totalOf_3 : decode cX6_totalOf 3 = .ok (.invokevirtual 137, 3) := by decide +kernel
theorem dX6_totalOf_6 : decode cX6_totalOf 6 = .ok (.istore_n 2, 1) := by decide +kernel
theorem dX6_totalOf_7 : decode cX6_totalOf 7 = .ok (.iload_n 2, 1) := by decide +kernel
theorem dX6_totalOf_8 : decode cX6_totalOf 8 = .ok (.aload_n 0, 1) := by decide +kernel
theorem dX6_totalOf_9 : decode cX6_totalOf 9 = .ok (.iload_n 1, 1) := by decide +kernel
theorem dX6_totalOf_10 : decode cX6_totalOf 10 = .ok (.iload_n 2, 1) := by decide +kernel
theorem dX6_totalOf_11 : decode cX6_totalOf 11 = .ok (.invokevirtual 140, 3) := by decide +kernel
theorem dX6_totalOf_14 : decode cX6_totalOf 14 = .ok (.iadd, 1) := by decide +kernel
theorem dX6_totalOf_15 : decode cX6_totalOf 15 = .ok (.ireturn, 1) := by decide +kernel
theorem dX6_goods_0 : decode cX6_goods 0 = .ok (.aload_n 0, 1) := by decide +kernel
theorem dX6_goods_1 : decode cX6_goods 1 = .ok (.iconst 0, 1) := by decide +kernel
theorem dX6_goods_2 : decode cX6_goods 2 = .ok (.putfield 42, 3) := by decide +kernel
theorem dX6_goods_5 : decode cX6_goods 5 = .ok (.aload_n 0, 1) := by decide +kernel
theorem dX6_goods_6 : decode cX6_goods 6 = .ok (.iload_n 1, 1) := by decide +kernel
theorem dX6_goods_7 : decode cX6_goods 7 = .ok (.invokevirtual 107, 3) := by decide +kernel
theorem dX6_goods_10 : decode cX6_goods 10 = .ok (.ifCond .ne 9, 3) := by decide +kernel
theorem dX6_goods_13 : decode cX6_goods 13 = .ok (.aload_n 0, 1) := by decide +kernel
theorem dX6_goods_14 : decode cX6_goods 14 = .ok (.iconst 1, 1) := by decide +kernel
theorem dX6_goods_15 : decode cX6_goods 15 = .ok (.invokevirtual 58, 3) := by decide +kernel
theorem dX6_goods_18 : decode cX6_goods 18 = .ok (.ireturn, 1) := by decide +kernel
theorem dX6_goods_19 : decode cX6_goods 19 = .ok (.aload_n 0, 1) := by decide +kernel
theorem dX6_goods_20 : decode cX6_goods 20 = .ok (.iload_n 1, 1) := by decide +kernel
theorem dX6_goods_21 : decode cX6_goods 21 = .ok (.invokevirtual 110, 3) := by decide +kernel
theorem dX6_goods_24 : decode cX6_goods 24 = .ok (.ifCond .eq 12, 3) := by decide +kernel
theorem dX6_goods_27 : decode cX6_goods 27 = .ok (.aload_n 0, 1) := by decide +kernel
theorem dX6_goods_28 : decode cX6_goods 28 = .ok (.iconst 0, 1) := by decide +kernel
theorem dX6_goods_29 : decode cX6_goods 29 = .ok (.iload_n 1, 1) := by decide +kernel
theorem dX6_goods_30 : decode cX6_goods 30 = .ok (.invokevirtual 137, 3) := by decide +kernel
theorem dX6_goods_33 : decode cX6_goods 33 = .ok (.goto 8, 3) := by decide +kernel
theorem dX6_goods_36 : decode cX6_goods 36 = .ok (.aload_n 0, 1) := by decide +kernel
theorem dX6_goods_37 : decode cX6_goods 37 = .ok (.iconst 2, 1) := by decide +kernel
theorem dX6_goods_38 : decode cX6_goods 38 = .ok (.invokevirtual 58, 3) := by decide +kernel
theorem dX6_goods_41 : decode cX6_goods 41 = .ok (.ireturn, 1) := by decide +kernel
theorem dX6_total_0 : decode cX6_total 0 = .ok (.aload_n 0, 1) := by decide +kernel
theorem dX6_total_1 : decode cX6_total 1 = .ok (.iconst 0, 1) := by decide +kernel
theorem dX6_total_2 : decode cX6_total 2 = .ok (.putfield 42, 3) := by decide +kernel
theorem dX6_total_5 : decode cX6_total 5 = .ok (.aload_n 0, 1) := by decide +kernel
theorem dX6_total_6 : decode cX6_total 6 = .ok (.iload_n 1, 1) := by decide +kernel
theorem dX6_total_7 : decode cX6_total 7 = .ok (.invokevirtual 107, 3) := by decide +kernel
theorem dX6_total_10 : decode cX6_total 10 = .ok (.ifCond .ne 9, 3) := by decide +kernel
theorem dX6_total_13 : decode cX6_total 13 = .ok (.aload_n 0, 1) := by decide +kernel
theorem dX6_total_14 : decode cX6_total 14 = .ok (.iconst 1, 1) := by decide +kernel
theorem dX6_total_15 : decode cX6_total 15 = .ok (.invokevirtual 58, 3) := by decide +kernel
theorem dX6_total_18 : decode cX6_total 18 = .ok (.ireturn, 1) := by decide +kernel
theorem dX6_total_19 : decode cX6_total 19 = .ok (.aload_n 0, 1) := by decide +kernel
theorem dX6_total_20 : decode cX6_total 20 = .ok (.iload_n 1, 1) := by decide +kernel
theorem dX6_total_21 : decode cX6_total 21 = .ok (.invokevirtual 110, 3) := by decide +kernel
theorem dX6_total_24 : decode cX6_total 24 = .ok (.ifCond .eq 11, 3) := by decide +kernel
theorem dX6_total_27 : decode cX6_total 27 = .ok (.aload_n 0, 1) := by decide +kernel
theorem dX6_total_28 : decode cX6_total 28 = .ok (.iload_n 1, 1) := by decide +kernel
theorem dX6_total_29 : decode cX6_total 29 = .ok (.invokevirtual 143, 3) := by decide +kernel
theorem dX6_total_32 : decode cX6_total 32 = .ok (.goto 8, 3) := by decide +kernel
theorem dX6_total_35 : decode cX6_total 35 = .ok (.aload_n 0, 1) := by decide +kernel
theorem dX6_total_36 : decode cX6_total 36 = .ok (.iconst 2, 1) := by decide +kernel
theorem dX6_total_37 : decode cX6_total 37 = .ok (.invokevirtual 58, 3) := by decide +kernel
theorem dX6_total_40 : decode cX6_total 40 = .ok (.ireturn, 1) := by decide +kernel
theorem dX6_rest_0 : decode cX6_rest 0 = .ok (.aload_n 0, 1) := by decide +kernel
theorem dX6_rest_1 : decode cX6_rest 1 = .ok (.iconst 0, 1) := by decide +kernel
theorem dX6_rest_2 : decode cX6_rest 2 = .ok (.putfield 42, 3) := by decide +kernel
theorem dX6_rest_5 : decode cX6_rest 5 = .ok (.aload_n 0, 1) := by decide +kernel
theorem dX6_rest_6 : decode cX6_rest 6 = .ok (.iload_n 1, 1) := by decide +kernel
theorem dX6_rest_7 : decode cX6_rest 7 = .ok (.invokevirtual 107, 3) := by decide +kernel
theorem dX6_rest_10 : decode cX6_rest 10 = .ok (.ifCond .ne 9, 3) := by decide +kernel
theorem dX6_rest_13 : decode cX6_rest 13 = .ok (.aload_n 0, 1) := by decide +kernel
theorem dX6_rest_14 : decode cX6_rest 14 = .ok (.iconst 1, 1) := by decide +kernel
theorem dX6_rest_15 : decode cX6_rest 15 = .ok (.invokevirtual 58, 3) := by decide +kernel
theorem dX6_rest_18 : decode cX6_rest 18 = .ok (.ireturn, 1) := by decide +kernel
theorem dX6_rest_19 : decode cX6_rest 19 = .ok (.aload_n 0, 1) := by decide +kernel
theorem dX6_rest_20 : decode cX6_rest 20 = .ok (.iload_n 2, 1) := by decide +kernel
theorem dX6_rest_21 : decode cX6_rest 21 = .ok (.invokevirtual 62, 3) := by decide +kernel
theorem dX6_rest_24 : decode cX6_rest 24 = .ok (.ifCond .ne 9, 3) := by decide +kernel
theorem dX6_rest_27 : decode cX6_rest 27 = .ok (.aload_n 0, 1) := by decide +kernel
theorem dX6_rest_28 : decode cX6_rest 28 = .ok (.iconst 2, 1) := by decide +kernel
theorem dX6_rest_29 : decode cX6_rest 29 = .ok (.invokevirtual 58, 3) := by decide +kernel
theorem dX6_rest_32 : decode cX6_rest 32 = .ok (.ireturn, 1) := by decide +kernel
theorem dX6_rest_33 : decode cX6_rest 33 = .ok (.aload_n 0, 1) := by decide +kernel
theorem dX6_rest_34 : decode cX6_rest 34 = .ok (.iload_n 1, 1) := by decide +kernel
theorem dX6_rest_35 : decode cX6_rest 35 = .ok (.invokevirtual 110, 3) := by decide +kernel
theorem dX6_rest_38 : decode cX6_rest 38 = .ok (.ifCond .ne 9, 3) := by decide +kernel
theorem dX6_rest_41 : decode cX6_rest 41 = .ok (.aload_n 0, 1) := by decide +kernel
theorem dX6_rest_42 : decode cX6_rest 42 = .ok (.iconst 3, 1) := by decide +kernel
theorem dX6_rest_43 : decode cX6_rest 43 = .ok (.invokevirtual 58, 3) := by decide +kernel
theorem dX6_rest_46 : decode cX6_rest 46 = .ok (.ireturn, 1) := by decide +kernel
theorem dX6_rest_47 : decode cX6_rest 47 = .ok (.aload_n 0, 1) := by decide +kernel
theorem dX6_rest_48 : decode cX6_rest 48 = .ok (.iconst 0, 1) := by decide +kernel
theorem dX6_rest_49 : decode cX6_rest 49 = .ok (.iload_n 1, 1) := by decide +kernel
theorem dX6_rest_50 : decode cX6_rest 50 = .ok (.invokevirtual 137, 3) := by decide +kernel
theorem dX6_rest_53 : decode cX6_rest 53 = .ok (.pop, 1) := by decide +kernel
theorem dX6_rest_54 : decode cX6_rest 54 = .ok (.iconst 0, 1) := by decide +kernel
theorem dX6_rest_55 : decode cX6_rest 55 = .ok (.istore_n 3, 1) := by decide +kernel
theorem dX6_rest_56 : decode cX6_rest 56 = .ok (.iconst 0, 1) := by decide +kernel
theorem dX6_rest_57 : decode cX6_rest 57 = .ok (.istore 4, 2) := by decide +kernel
theorem dX6_rest_59 : decode cX6_rest 59 = .ok (.iload 4, 2) := by decide +kernel
theorem dX6_rest_61 : decode cX6_rest 61 = .ok (.aload_n 0, 1) := by decide +kernel
theorem dX6_rest_62 : decode cX6_rest 62 = .ok (.getfield 113, 3) := by decide +kernel
theorem dX6_rest_65 : decode cX6_rest 65 = .ok (.if_icmp .ge 34, 3) := by decide +kernel
theorem dX6_rest_68 : decode cX6_rest 68 = .ok (.iload_n 3, 1) := by decide +kernel
theorem dX6_rest_69 : decode cX6_rest 69 = .ok (.aload_n 0, 1) := by decide +kernel
theorem dX6_rest_70 : decode cX6_rest 70 = .ok (.getfield 36, 3) := by decide +kernel
theorem dX6_rest_73 : decode cX6_rest 73 = .ok (.iload 4, 2) := by decide +kernel
theorem dX6_rest_75 : decode cX6_rest 75 = .ok (.iaload, 1) := by decide +kernel
theorem dX6_rest_76 : decode cX6_rest 76 = .ok (.iload_n 2, 1) := by decide +kernel
theorem dX6_rest_77 : decode cX6_rest 77 = .ok (.if_icmp .ne 13, 3) := by decide +kernel
theorem dX6_rest_80 : decode cX6_rest 80 = .ok (.aload_n 0, 1) := by decide +kernel
theorem dX6_rest_81 : decode cX6_rest 81 = .ok (.getfield 39, 3) := by decide +kernel
theorem dX6_rest_84 : decode cX6_rest 84 = .ok (.iload 4, 2) := by decide +kernel
theorem dX6_rest_86 : decode cX6_rest 86 = .ok (.iaload, 1) := by decide +kernel
theorem dX6_rest_87 : decode cX6_rest 87 = .ok (.goto 4, 3) := by decide +kernel
theorem dX6_rest_90 : decode cX6_rest 90 = .ok (.iconst 0, 1) := by decide +kernel
theorem dX6_rest_91 : decode cX6_rest 91 = .ok (.iadd, 1) := by decide +kernel
theorem dX6_rest_92 : decode cX6_rest 92 = .ok (.istore_n 3, 1) := by decide +kernel
theorem dX6_rest_93 : decode cX6_rest 93 = .ok (.iinc 4 1, 3) := by decide +kernel
theorem dX6_rest_96 : decode cX6_rest 96 = .ok (.goto (-37), 3) := by decide +kernel
theorem dX6_rest_99 : decode cX6_rest 99 = .ok (.iload_n 3, 1) := by decide +kernel
theorem dX6_rest_100 : decode cX6_rest 100 = .ok (.ireturn, 1) := by decide +kernel
theorem dX6_bestSet_0 : decode cX6_bestSet 0 = .ok (.iconst 0, 1) := by decide +kernel
theorem dX6_bestSet_1 : decode cX6_bestSet 1 = .ok (.istore_n 1, 1) := by decide +kernel
theorem dX6_bestSet_2 : decode cX6_bestSet 2 = .ok (.aload_n 0, 1) := by decide +kernel
theorem dX6_bestSet_3 : decode cX6_bestSet 3 = .ok (.iconst 0, 1) := by decide +kernel
theorem dX6_bestSet_4 : decode cX6_bestSet 4 = .ok (.invokevirtual 143, 3) := by decide +kernel
theorem dX6_bestSet_7 : decode cX6_bestSet 7 = .ok (.istore_n 2, 1) := by decide +kernel
theorem dX6_bestSet_8 : decode cX6_bestSet 8 = .ok (.iconst 1, 1) := by decide +kernel
theorem dX6_bestSet_9 : decode cX6_bestSet 9 = .ok (.istore_n 3, 1) := by decide +kernel
theorem dX6_bestSet_10 : decode cX6_bestSet 10 = .ok (.iload_n 3, 1) := by decide +kernel
theorem dX6_bestSet_11 : decode cX6_bestSet 11 = .ok (.iconst 1, 1) := by decide +kernel
theorem dX6_bestSet_12 : decode cX6_bestSet 12 = .ok (.aload_n 0, 1) := by decide +kernel
theorem dX6_bestSet_13 : decode cX6_bestSet 13 = .ok (.getfield 52, 3) := by decide +kernel
theorem dX6_bestSet_16 : decode cX6_bestSet 16 = .ok (.ishl, 1) := by decide +kernel
theorem dX6_bestSet_17 : decode cX6_bestSet 17 = .ok (.if_icmp .ge 58, 3) := by decide +kernel
theorem dX6_bestSet_20 : decode cX6_bestSet 20 = .ok (.aload_n 0, 1) := by decide +kernel
theorem dX6_bestSet_21 : decode cX6_bestSet 21 = .ok (.iload_n 3, 1) := by decide +kernel
theorem dX6_bestSet_22 : decode cX6_bestSet 22 = .ok (.invokevirtual 110, 3) := by decide +kernel
theorem dX6_bestSet_25 : decode cX6_bestSet 25 = .ok (.ifCond .ne 6, 3) := by decide +kernel
theorem dX6_bestSet_28 : decode cX6_bestSet 28 = .ok (.goto 41, 3) := by decide +kernel
theorem dX6_bestSet_31 : decode cX6_bestSet 31 = .ok (.aload_n 0, 1) := by decide +kernel
theorem dX6_bestSet_32 : decode cX6_bestSet 32 = .ok (.iload_n 3, 1) := by decide +kernel
theorem dX6_bestSet_33 : decode cX6_bestSet 33 = .ok (.invokevirtual 143, 3) := by decide +kernel
theorem dX6_bestSet_36 : decode cX6_bestSet 36 = .ok (.istore 4, 2) := by decide +kernel
theorem dX6_bestSet_38 : decode cX6_bestSet 38 = .ok (.iload 4, 2) := by decide +kernel
theorem dX6_bestSet_40 : decode cX6_bestSet 40 = .ok (.iload_n 2, 1) := by decide +kernel
theorem dX6_bestSet_41 : decode cX6_bestSet 41 = .ok (.if_icmp .gt 28, 3) := by decide +kernel
theorem dX6_bestSet_44 : decode cX6_bestSet 44 = .ok (.iload 4, 2) := by decide +kernel
theorem dX6_bestSet_46 : decode cX6_bestSet 46 = .ok (.iload_n 2, 1) := by decide +kernel
theorem dX6_bestSet_47 : decode cX6_bestSet 47 = .ok (.if_icmp .ne 17, 3) := by decide +kernel
theorem dX6_bestSet_50 : decode cX6_bestSet 50 = .ok (.iload_n 3, 1) := by decide +kernel
theorem dX6_bestSet_51 : decode cX6_bestSet 51 = .ok (.invokestatic 146, 3) := by decide +kernel
theorem dX6_bestSet_54 : decode cX6_bestSet 54 = .ok (.iload_n 1, 1) := by decide +kernel
theorem dX6_bestSet_55 : decode cX6_bestSet 55 = .ok (.invokestatic 146, 3) := by decide +kernel
theorem dX6_bestSet_58 : decode cX6_bestSet 58 = .ok (.if_icmp .lt 6, 3) := by decide +kernel
theorem dX6_bestSet_61 : decode cX6_bestSet 61 = .ok (.goto 8, 3) := by decide +kernel
theorem dX6_bestSet_64 : decode cX6_bestSet 64 = .ok (.iload_n 3, 1) := by decide +kernel
theorem dX6_bestSet_65 : decode cX6_bestSet 65 = .ok (.istore_n 1, 1) := by decide +kernel
theorem dX6_bestSet_66 : decode cX6_bestSet 66 = .ok (.iload 4, 2) := by decide +kernel
theorem dX6_bestSet_68 : decode cX6_bestSet 68 = .ok (.istore_n 2, 1) := by decide +kernel
theorem dX6_bestSet_69 : decode cX6_bestSet 69 = .ok (.iinc 3 1, 3) := by decide +kernel
theorem dX6_bestSet_72 : decode cX6_bestSet 72 = .ok (.goto (-62), 3) := by decide +kernel
theorem dX6_bestSet_75 : decode cX6_bestSet 75 = .ok (.iload_n 1, 1) := by decide +kernel
theorem dX6_bestSet_76 : decode cX6_bestSet 76 = .ok (.ireturn, 1) := by decide +kernel
theorem dX6_best_0 : decode cX6_best 0 = .ok (.aload_n 0, 1) := by decide +kernel
theorem dX6_best_1 : decode cX6_best 1 = .ok (.iconst 0, 1) := by decide +kernel
theorem dX6_best_2 : decode cX6_best 2 = .ok (.putfield 42, 3) := by decide +kernel
theorem dX6_best_5 : decode cX6_best 5 = .ok (.aload_n 0, 1) := by decide +kernel
theorem dX6_best_6 : decode cX6_best 6 = .ok (.invokevirtual 151, 3) := by decide +kernel
theorem dX6_best_9 : decode cX6_best 9 = .ok (.ireturn, 1) := by decide +kernel
theorem dX6_worth_0 : decode cX6_worth 0 = .ok (.aload_n 0, 1) := by decide +kernel
theorem dX6_worth_1 : decode cX6_worth 1 = .ok (.iconst 0, 1) := by decide +kernel
theorem dX6_worth_2 : decode cX6_worth 2 = .ok (.putfield 42, 3) := by decide +kernel
theorem dX6_worth_5 : decode cX6_worth 5 = .ok (.aload_n 0, 1) := by decide +kernel
theorem dX6_worth_6 : decode cX6_worth 6 = .ok (.iload_n 1, 1) := by decide +kernel
theorem dX6_worth_7 : decode cX6_worth 7 = .ok (.invokevirtual 83, 3) := by decide +kernel
theorem dX6_worth_10 : decode cX6_worth 10 = .ok (.ifCond .ne 9, 3) := by decide +kernel
theorem dX6_worth_13 : decode cX6_worth 13 = .ok (.aload_n 0, 1) := by decide +kernel
theorem dX6_worth_14 : decode cX6_worth 14 = .ok (.iconst 1, 1) := by decide +kernel
theorem dX6_worth_15 : decode cX6_worth 15 = .ok (.invokevirtual 58, 3) := by decide +kernel
theorem dX6_worth_18 : decode cX6_worth 18 = .ok (.ireturn, 1) := by decide +kernel
theorem dX6_worth_19 : decode cX6_worth 19 = .ok (.aload_n 0, 1) := by decide +kernel
theorem dX6_worth_20 : decode cX6_worth 20 = .ok (.aload_n 0, 1) := by decide +kernel
theorem dX6_worth_21 : decode cX6_worth 21 = .ok (.invokevirtual 151, 3) := by decide +kernel
theorem dX6_worth_24 : decode cX6_worth 24 = .ok (.invokevirtual 143, 3) := by decide +kernel
theorem dX6_worth_27 : decode cX6_worth 27 = .ok (.istore_n 2, 1) := by decide +kernel
theorem dX6_worth_28 : decode cX6_worth 28 = .ok (.aload_n 0, 1) := by decide +kernel
theorem dX6_worth_29 : decode cX6_worth 29 = .ok (.getfield 24, 3) := by decide +kernel
theorem dX6_worth_32 : decode cX6_worth 32 = .ok (.bipush 6, 2) := by decide +kernel
theorem dX6_worth_34 : decode cX6_worth 34 = .ok (.iload_n 1, 1) := by decide +kernel
theorem dX6_worth_35 : decode cX6_worth 35 = .ok (.imul, 1) := by decide +kernel
theorem dX6_worth_36 : decode cX6_worth 36 = .ok (.iconst 5, 1) := by decide +kernel
theorem dX6_worth_37 : decode cX6_worth 37 = .ok (.iadd, 1) := by decide +kernel
theorem dX6_worth_38 : decode cX6_worth 38 = .ok (.iaload, 1) := by decide +kernel
theorem dX6_worth_39 : decode cX6_worth 39 = .ok (.istore_n 3, 1) := by decide +kernel
theorem dX6_worth_40 : decode cX6_worth 40 = .ok (.aload_n 0, 1) := by decide +kernel
theorem dX6_worth_41 : decode cX6_worth 41 = .ok (.getfield 24, 3) := by decide +kernel
theorem dX6_worth_44 : decode cX6_worth 44 = .ok (.bipush 6, 2) := by decide +kernel
theorem dX6_worth_46 : decode cX6_worth 46 = .ok (.iload_n 1, 1) := by decide +kernel
theorem dX6_worth_47 : decode cX6_worth 47 = .ok (.imul, 1) := by decide +kernel
theorem dX6_worth_48 : decode cX6_worth 48 = .ok (.iconst 5, 1) := by decide +kernel
theorem dX6_worth_49 : decode cX6_worth 49 = .ok (.iadd, 1) := by decide +kernel
theorem dX6_worth_50 : decode cX6_worth 50 = .ok (.iconst 0, 1) := by decide +kernel
theorem dX6_worth_51 : decode cX6_worth 51 = .ok (.iastore, 1) := by decide +kernel
theorem dX6_worth_52 : decode cX6_worth 52 = .ok (.aload_n 0, 1) := by decide +kernel
theorem dX6_worth_53 : decode cX6_worth 53 = .ok (.aload_n 0, 1) := by decide +kernel
theorem dX6_worth_54 : decode cX6_worth 54 = .ok (.invokevirtual 151, 3) := by decide +kernel
theorem dX6_worth_57 : decode cX6_worth 57 = .ok (.invokevirtual 143, 3) := by decide +kernel
theorem dX6_worth_60 : decode cX6_worth 60 = .ok (.istore 4, 2) := by decide +kernel
theorem dX6_worth_62 : decode cX6_worth 62 = .ok (.aload_n 0, 1) := by decide +kernel
theorem dX6_worth_63 : decode cX6_worth 63 = .ok (.getfield 24, 3) := by decide +kernel
theorem dX6_worth_66 : decode cX6_worth 66 = .ok (.bipush 6, 2) := by decide +kernel
theorem dX6_worth_68 : decode cX6_worth 68 = .ok (.iload_n 1, 1) := by decide +kernel
theorem dX6_worth_69 : decode cX6_worth 69 = .ok (.imul, 1) := by decide +kernel
theorem dX6_worth_70 : decode cX6_worth 70 = .ok (.iconst 5, 1) := by decide +kernel
theorem dX6_worth_71 : decode cX6_worth 71 = .ok (.iadd, 1) := by decide +kernel
theorem dX6_worth_72 : decode cX6_worth 72 = .ok (.iload_n 3, 1) := by decide +kernel
theorem dX6_worth_73 : decode cX6_worth 73 = .ok (.iastore, 1) := by decide +kernel
theorem dX6_worth_74 : decode cX6_worth 74 = .ok (.iload 4, 2) := by decide +kernel
theorem dX6_worth_76 : decode cX6_worth 76 = .ok (.iload_n 2, 1) := by decide +kernel
theorem dX6_worth_77 : decode cX6_worth 77 = .ok (.isub, 1) := by decide +kernel
theorem dX6_worth_78 : decode cX6_worth 78 = .ok (.ireturn, 1) := by decide +kernel
theorem dX6_buy_0 : decode cX6_buy 0 = .ok (.aload_n 0, 1) := by decide +kernel
theorem dX6_buy_1 : decode cX6_buy 1 = .ok (.iconst 0, 1) := by decide +kernel
theorem dX6_buy_2 : decode cX6_buy 2 = .ok (.putfield 42, 3) := by decide +kernel
theorem dX6_buy_5 : decode cX6_buy 5 = .ok (.aload_n 0, 1) := by decide +kernel
theorem dX6_buy_6 : decode cX6_buy 6 = .ok (.iload_n 1, 1) := by decide +kernel
theorem dX6_buy_7 : decode cX6_buy 7 = .ok (.invokevirtual 107, 3) := by decide +kernel
theorem dX6_buy_10 : decode cX6_buy 10 = .ok (.ifCond .ne 9, 3) := by decide +kernel
theorem dX6_buy_13 : decode cX6_buy 13 = .ok (.aload_n 0, 1) := by decide +kernel
theorem dX6_buy_14 : decode cX6_buy 14 = .ok (.iconst 1, 1) := by decide +kernel
theorem dX6_buy_15 : decode cX6_buy 15 = .ok (.invokevirtual 58, 3) := by decide +kernel
theorem dX6_buy_18 : decode cX6_buy 18 = .ok (.ireturn, 1) := by decide +kernel
theorem dX6_buy_19 : decode cX6_buy 19 = .ok (.aload_n 0, 1) := by decide +kernel
theorem dX6_buy_20 : decode cX6_buy 20 = .ok (.iload_n 1, 1) := by decide +kernel
theorem dX6_buy_21 : decode cX6_buy 21 = .ok (.invokevirtual 110, 3) := by decide +kernel
theorem dX6_buy_24 : decode cX6_buy 24 = .ok (.ifCond .eq 20, 3) := by decide +kernel
theorem dX6_buy_27 : decode cX6_buy 27 = .ok (.aload_n 0, 1) := by decide +kernel
theorem dX6_buy_28 : decode cX6_buy 28 = .ok (.iconst 0, 1) := by decide +kernel
theorem dX6_buy_29 : decode cX6_buy 29 = .ok (.invokevirtual 134, 3) := by decide +kernel
theorem dX6_buy_32 : decode cX6_buy 32 = .ok (.ifCond .eq 12, 3) := by decide +kernel
theorem dX6_buy_35 : decode cX6_buy 35 = .ok (.aload_n 0, 1) := by decide +kernel
theorem dX6_buy_36 : decode cX6_buy 36 = .ok (.getfield 55, 3) := by decide +kernel
theorem dX6_buy_39 : decode cX6_buy 39 = .ok (.bipush 12, 2) := by decide +kernel
theorem dX6_buy_41 : decode cX6_buy 41 = .ok (.if_icmp .ne 9, 3) := by decide +kernel
theorem dX6_buy_44 : decode cX6_buy 44 = .ok (.aload_n 0, 1) := by decide +kernel
theorem dX6_buy_45 : decode cX6_buy 45 = .ok (.iconst 2, 1) := by decide +kernel
theorem dX6_buy_46 : decode cX6_buy 46 = .ok (.invokevirtual 58, 3) := by decide +kernel
theorem dX6_buy_49 : decode cX6_buy 49 = .ok (.ireturn, 1) := by decide +kernel
theorem dX6_buy_50 : decode cX6_buy 50 = .ok (.aload_n 0, 1) := by decide +kernel
theorem dX6_buy_51 : decode cX6_buy 51 = .ok (.getfield 27, 3) := by decide +kernel
theorem dX6_buy_54 : decode cX6_buy 54 = .ok (.aload_n 0, 1) := by decide +kernel
theorem dX6_buy_55 : decode cX6_buy 55 = .ok (.getfield 55, 3) := by decide +kernel
theorem dX6_buy_58 : decode cX6_buy 58 = .ok (.aload_n 0, 1) := by decide +kernel
theorem dX6_buy_59 : decode cX6_buy 59 = .ok (.iconst 0, 1) := by decide +kernel
theorem dX6_buy_60 : decode cX6_buy 60 = .ok (.iload_n 1, 1) := by decide +kernel
theorem dX6_buy_61 : decode cX6_buy 61 = .ok (.invokevirtual 137, 3) := by decide +kernel
theorem dX6_buy_64 : decode cX6_buy 64 = .ok (.iastore, 1) := by decide +kernel
theorem dX6_buy_65 : decode cX6_buy 65 = .ok (.aload_n 0, 1) := by decide +kernel
theorem dX6_buy_66 : decode cX6_buy 66 = .ok (.getfield 30, 3) := by decide +kernel
theorem dX6_buy_69 : decode cX6_buy 69 = .ok (.aload_n 0, 1) := by decide +kernel
theorem dX6_buy_70 : decode cX6_buy 70 = .ok (.getfield 55, 3) := by decide +kernel
theorem dX6_buy_73 : decode cX6_buy 73 = .ok (.aload_n 0, 1) := by decide +kernel
theorem dX6_buy_74 : decode cX6_buy 74 = .ok (.iload_n 1, 1) := by decide +kernel
theorem dX6_buy_75 : decode cX6_buy 75 = .ok (.aload_n 0, 1) := by decide +kernel
theorem dX6_buy_76 : decode cX6_buy 76 = .ok (.getfield 27, 3) := by decide +kernel
theorem dX6_buy_79 : decode cX6_buy 79 = .ok (.aload_n 0, 1) := by decide +kernel
theorem dX6_buy_80 : decode cX6_buy 80 = .ok (.getfield 55, 3) := by decide +kernel
theorem dX6_buy_83 : decode cX6_buy 83 = .ok (.iaload, 1) := by decide +kernel
theorem dX6_buy_84 : decode cX6_buy 84 = .ok (.invokevirtual 140, 3) := by decide +kernel
theorem dX6_buy_87 : decode cX6_buy 87 = .ok (.iastore, 1) := by decide +kernel
theorem dX6_buy_88 : decode cX6_buy 88 = .ok (.aload_n 0, 1) := by decide +kernel
theorem dX6_buy_89 : decode cX6_buy 89 = .ok (.getfield 33, 3) := by decide +kernel
theorem dX6_buy_92 : decode cX6_buy 92 = .ok (.aload_n 0, 1) := by decide +kernel
theorem dX6_buy_93 : decode cX6_buy 93 = .ok (.getfield 55, 3) := by decide +kernel
theorem dX6_buy_96 : decode cX6_buy 96 = .ok (.iload_n 1, 1) := by decide +kernel
theorem dX6_buy_97 : decode cX6_buy 97 = .ok (.iastore, 1) := by decide +kernel
theorem dX6_buy_98 : decode cX6_buy 98 = .ok (.aload_n 0, 1) := by decide +kernel
theorem dX6_buy_99 : decode cX6_buy 99 = .ok (.dup, 1) := by decide +kernel
theorem dX6_buy_100 : decode cX6_buy 100 = .ok (.getfield 55, 3) := by decide +kernel
theorem dX6_buy_103 : decode cX6_buy 103 = .ok (.iconst 1, 1) := by decide +kernel
theorem dX6_buy_104 : decode cX6_buy 104 = .ok (.iadd, 1) := by decide +kernel
theorem dX6_buy_105 : decode cX6_buy 105 = .ok (.putfield 55, 3) := by decide +kernel
theorem dX6_buy_108 : decode cX6_buy 108 = .ok (.aload_n 0, 1) := by decide +kernel
theorem dX6_buy_109 : decode cX6_buy 109 = .ok (.getfield 16, 3) := by decide +kernel
theorem dX6_buy_112 : decode cX6_buy 112 = .ok (.iconst 0, 1) := by decide +kernel
theorem dX6_buy_113 : decode cX6_buy 113 = .ok (.aload_n 0, 1) := by decide +kernel
theorem dX6_buy_114 : decode cX6_buy 114 = .ok (.getfield 16, 3) := by decide +kernel
theorem dX6_buy_117 : decode cX6_buy 117 = .ok (.bipush 10, 2) := by decide +kernel
theorem dX6_buy_119 : decode cX6_buy 119 = .ok (.aload_n 0, 1) := by decide +kernel
theorem dX6_buy_120 : decode cX6_buy 120 = .ok (.getfield 55, 3) := by decide +kernel
theorem dX6_buy_123 : decode cX6_buy 123 = .ok (.imul, 1) := by decide +kernel
theorem dX6_buy_124 : decode cX6_buy 124 = .ok (.bipush 10, 2) := by decide +kernel
theorem dX6_buy_126 : decode cX6_buy 126 = .ok (.invokestatic 77, 3) := by decide +kernel
theorem dX6_buy_129 : decode cX6_buy 129 = .ok (.aload_n 0, 1) := by decide +kernel
theorem dX6_buy_130 : decode cX6_buy 130 = .ok (.getfield 13, 3) := by decide +kernel
theorem dX6_buy_133 : decode cX6_buy 133 = .ok (.iconst 0, 1) := by decide +kernel
theorem dX6_buy_134 : decode cX6_buy 134 = .ok (.aload_n 0, 1) := by decide +kernel
theorem dX6_buy_135 : decode cX6_buy 135 = .ok (.getfield 13, 3) := by decide +kernel
theorem dX6_buy_138 : decode cX6_buy 138 = .ok (.bipush 10, 2) := by decide +kernel
theorem dX6_buy_140 : decode cX6_buy 140 = .ok (.aload_n 0, 1) := by decide +kernel
theorem dX6_buy_141 : decode cX6_buy 141 = .ok (.getfield 55, 3) := by decide +kernel
theorem dX6_buy_144 : decode cX6_buy 144 = .ok (.imul, 1) := by decide +kernel
theorem dX6_buy_145 : decode cX6_buy 145 = .ok (.bipush 10, 2) := by decide +kernel
theorem dX6_buy_147 : decode cX6_buy 147 = .ok (.invokestatic 77, 3) := by decide +kernel
theorem dX6_buy_150 : decode cX6_buy 150 = .ok (.iconst 0, 1) := by decide +kernel
theorem dX6_buy_151 : decode cX6_buy 151 = .ok (.istore_n 2, 1) := by decide +kernel
theorem dX6_buy_152 : decode cX6_buy 152 = .ok (.iload_n 2, 1) := by decide +kernel
theorem dX6_buy_153 : decode cX6_buy 153 = .ok (.aload_n 0, 1) := by decide +kernel
theorem dX6_buy_154 : decode cX6_buy 154 = .ok (.getfield 45, 3) := by decide +kernel
theorem dX6_buy_157 : decode cX6_buy 157 = .ok (.if_icmp .ge 16, 3) := by decide +kernel
theorem dX6_buy_160 : decode cX6_buy 160 = .ok (.aload_n 0, 1) := by decide +kernel
theorem dX6_buy_161 : decode cX6_buy 161 = .ok (.getfield 13, 3) := by decide +kernel
theorem dX6_buy_164 : decode cX6_buy 164 = .ok (.iload_n 2, 1) := by decide +kernel
theorem dX6_buy_165 : decode cX6_buy 165 = .ok (.iconst 0, 1) := by decide +kernel
theorem dX6_buy_166 : decode cX6_buy 166 = .ok (.iastore, 1) := by decide +kernel
theorem dX6_buy_167 : decode cX6_buy 167 = .ok (.iinc 2 1, 3) := by decide +kernel
theorem dX6_buy_170 : decode cX6_buy 170 = .ok (.goto (-18), 3) := by decide +kernel
theorem dX6_buy_173 : decode cX6_buy 173 = .ok (.iconst 0, 1) := by decide +kernel
theorem dX6_buy_174 : decode cX6_buy 174 = .ok (.istore_n 2, 1) := by decide +kernel
theorem dX6_buy_175 : decode cX6_buy 175 = .ok (.iload_n 2, 1) := by decide +kernel
theorem dX6_buy_176 : decode cX6_buy 176 = .ok (.aload_n 0, 1) := by decide +kernel
theorem dX6_buy_177 : decode cX6_buy 177 = .ok (.getfield 52, 3) := by decide +kernel
theorem dX6_buy_180 : decode cX6_buy 180 = .ok (.if_icmp .ge 32, 3) := by decide +kernel
theorem dX6_buy_183 : decode cX6_buy 183 = .ok (.iload_n 1, 1) := by decide +kernel
theorem dX6_buy_184 : decode cX6_buy 184 = .ok (.iload_n 2, 1) := by decide +kernel
theorem dX6_buy_185 : decode cX6_buy 185 = .ok (.invokestatic 86, 3) := by decide +kernel
theorem dX6_buy_188 : decode cX6_buy 188 = .ok (.ifCond .eq 18, 3) := by decide +kernel
theorem dX6_buy_191 : decode cX6_buy 191 = .ok (.aload_n 0, 1) := by decide +kernel
theorem dX6_buy_192 : decode cX6_buy 192 = .ok (.getfield 24, 3) := by decide +kernel
theorem dX6_buy_195 : decode cX6_buy 195 = .ok (.bipush 6, 2) := by decide +kernel
theorem dX6_buy_197 : decode cX6_buy 197 = .ok (.iload_n 2, 1) := by decide +kernel
theorem dX6_buy_198 : decode cX6_buy 198 = .ok (.imul, 1) := by decide +kernel
theorem dX6_buy_199 : decode cX6_buy 199 = .ok (.iconst 5, 1) := by decide +kernel
theorem dX6_buy_200 : decode cX6_buy 200 = .ok (.iadd, 1) := by decide +kernel
theorem dX6_buy_201 : decode cX6_buy 201 = .ok (.dup2, 1) := by decide +kernel
theorem dX6_buy_202 : decode cX6_buy 202 = .ok (.iaload, 1) := by decide +kernel
theorem dX6_buy_203 : decode cX6_buy 203 = .ok (.iconst 1, 1) := by decide +kernel
theorem dX6_buy_204 : decode cX6_buy 204 = .ok (.isub, 1) := by decide +kernel
theorem dX6_buy_205 : decode cX6_buy 205 = .ok (.iastore, 1) := by decide +kernel
theorem dX6_buy_206 : decode cX6_buy 206 = .ok (.iinc 2 1, 3) := by decide +kernel
theorem dX6_buy_209 : decode cX6_buy 209 = .ok (.goto (-34), 3) := by decide +kernel
theorem dX6_buy_212 : decode cX6_buy 212 = .ok (.aload_n 0, 1) := by decide +kernel
theorem dX6_buy_213 : decode cX6_buy 213 = .ok (.getfield 55, 3) := by decide +kernel
theorem dX6_buy_216 : decode cX6_buy 216 = .ok (.iconst 1, 1) := by decide +kernel
theorem dX6_buy_217 : decode cX6_buy 217 = .ok (.isub, 1) := by decide +kernel
theorem dX6_buy_218 : decode cX6_buy 218 = .ok (.ireturn, 1) := by decide +kernel
theorem dX6_giveBack_0 : decode cX6_giveBack 0 = .ok (.aload_n 0, 1) := by decide +kernel
theorem dX6_giveBack_1 : decode cX6_giveBack 1 = .ok (.iconst 0, 1) := by decide +kernel
theorem dX6_giveBack_2 : decode cX6_giveBack 2 = .ok (.putfield 42, 3) := by decide +kernel
theorem dX6_giveBack_5 : decode cX6_giveBack 5 = .ok (.aload_n 0, 1) := by decide +kernel
theorem dX6_giveBack_6 : decode cX6_giveBack 6 = .ok (.iload_n 1, 1) := by decide +kernel
theorem dX6_giveBack_7 : decode cX6_giveBack 7 = .ok (.invokevirtual 155, 3) := by decide +kernel
theorem dX6_giveBack_10 : decode cX6_giveBack 10 = .ok (.ifCond .eq 11, 3) := by decide +kernel
theorem dX6_giveBack_13 : decode cX6_giveBack 13 = .ok (.aload_n 0, 1) := by decide +kernel
theorem dX6_giveBack_14 : decode cX6_giveBack 14 = .ok (.iload_n 2, 1) := by decide +kernel
theorem dX6_giveBack_15 : decode cX6_giveBack 15 = .ok (.invokevirtual 62, 3) := by decide +kernel
theorem dX6_giveBack_18 : decode cX6_giveBack 18 = .ok (.ifCond .ne 9, 3) := by decide +kernel
theorem dX6_giveBack_21 : decode cX6_giveBack 21 = .ok (.aload_n 0, 1) := by decide +kernel
theorem dX6_giveBack_22 : decode cX6_giveBack 22 = .ok (.iconst 1, 1) := by decide +kernel
theorem dX6_giveBack_23 : decode cX6_giveBack 23 = .ok (.invokevirtual 58, 3) := by decide +kernel
theorem dX6_giveBack_26 : decode cX6_giveBack 26 = .ok (.ireturn, 1) := by decide +kernel
theorem dX6_giveBack_27 : decode cX6_giveBack 27 = .ok (.iload_n 1, 1) := by decide +kernel
theorem dX6_giveBack_28 : decode cX6_giveBack 28 = .ok (.iconst 1, 1) := by decide +kernel
theorem dX6_giveBack_29 : decode cX6_giveBack 29 = .ok (.iadd, 1) := by decide +kernel
theorem dX6_giveBack_30 : decode cX6_giveBack 30 = .ok (.istore 4, 2) := by decide +kernel
theorem dX6_giveBack_32 : decode cX6_giveBack 32 = .ok (.iload_n 3, 1) := by decide +kernel
theorem dX6_giveBack_33 : decode cX6_giveBack 33 = .ok (.iconst 1, 1) := by decide +kernel
theorem dX6_giveBack_34 : decode cX6_giveBack 34 = .ok (.aload_n 0, 1) := by decide +kernel
theorem dX6_giveBack_35 : decode cX6_giveBack 35 = .ok (.getfield 13, 3) := by decide +kernel
theorem dX6_giveBack_38 : decode cX6_giveBack 38 = .ok (.bipush 10, 2) := by decide +kernel
theorem dX6_giveBack_40 : decode cX6_giveBack 40 = .ok (.iload 4, 2) := by decide +kernel
theorem dX6_giveBack_42 : decode cX6_giveBack 42 = .ok (.imul, 1) := by decide +kernel
theorem dX6_giveBack_43 : decode cX6_giveBack 43 = .ok (.iload_n 2, 1) := by decide +kernel
theorem dX6_giveBack_44 : decode cX6_giveBack 44 = .ok (.iadd, 1) := by decide +kernel
theorem dX6_giveBack_45 : decode cX6_giveBack 45 = .ok (.iaload, 1) := by decide +kernel
theorem dX6_giveBack_46 : decode cX6_giveBack 46 = .ok (.invokestatic 48, 3) := by decide +kernel
theorem dX6_giveBack_49 : decode cX6_giveBack 49 = .ok (.ifCond .ne 9, 3) := by decide +kernel
theorem dX6_giveBack_52 : decode cX6_giveBack 52 = .ok (.aload_n 0, 1) := by decide +kernel
theorem dX6_giveBack_53 : decode cX6_giveBack 53 = .ok (.iconst 2, 1) := by decide +kernel
theorem dX6_giveBack_54 : decode cX6_giveBack 54 = .ok (.invokevirtual 58, 3) := by decide +kernel
theorem dX6_giveBack_57 : decode cX6_giveBack 57 = .ok (.ireturn, 1) := by decide +kernel
theorem dX6_giveBack_58 : decode cX6_giveBack 58 = .ok (.aload_n 0, 1) := by decide +kernel
theorem dX6_giveBack_59 : decode cX6_giveBack 59 = .ok (.getfield 13, 3) := by decide +kernel
theorem dX6_giveBack_62 : decode cX6_giveBack 62 = .ok (.bipush 10, 2) := by decide +kernel
theorem dX6_giveBack_64 : decode cX6_giveBack 64 = .ok (.iload 4, 2) := by decide +kernel
theorem dX6_giveBack_66 : decode cX6_giveBack 66 = .ok (.imul, 1) := by decide +kernel
theorem dX6_giveBack_67 : decode cX6_giveBack 67 = .ok (.iload_n 2, 1) := by decide +kernel
theorem dX6_giveBack_68 : decode cX6_giveBack 68 = .ok (.iadd, 1) := by decide +kernel
theorem dX6_giveBack_69 : decode cX6_giveBack 69 = .ok (.dup2, 1) := by decide +kernel
theorem dX6_giveBack_70 : decode cX6_giveBack 70 = .ok (.iaload, 1) := by decide +kernel
theorem dX6_giveBack_71 : decode cX6_giveBack 71 = .ok (.iload_n 3, 1) := by decide +kernel
theorem dX6_giveBack_72 : decode cX6_giveBack 72 = .ok (.isub, 1) := by decide +kernel
theorem dX6_giveBack_73 : decode cX6_giveBack 73 = .ok (.iastore, 1) := by decide +kernel
theorem dX6_giveBack_74 : decode cX6_giveBack 74 = .ok (.iconst 0, 1) := by decide +kernel
theorem dX6_giveBack_75 : decode cX6_giveBack 75 = .ok (.istore 5, 2) := by decide +kernel
theorem dX6_giveBack_77 : decode cX6_giveBack 77 = .ok (.iload 5, 2) := by decide +kernel
theorem dX6_giveBack_79 : decode cX6_giveBack 79 = .ok (.aload_n 0, 1) := by decide +kernel
theorem dX6_giveBack_80 : decode cX6_giveBack 80 = .ok (.getfield 52, 3) := by decide +kernel
theorem dX6_giveBack_83 : decode cX6_giveBack 83 = .ok (.if_icmp .ge 49, 3) := by decide +kernel
theorem dX6_giveBack_86 : decode cX6_giveBack 86 = .ok (.aload_n 0, 1) := by decide +kernel
theorem dX6_giveBack_87 : decode cX6_giveBack 87 = .ok (.getfield 33, 3) := by decide +kernel
theorem dX6_giveBack_90 : decode cX6_giveBack 90 = .ok (.iload_n 1, 1) := by decide +kernel
theorem dX6_giveBack_91 : decode cX6_giveBack 91 = .ok (.iaload, 1) := by decide +kernel
theorem dX6_giveBack_92 : decode cX6_giveBack 92 = .ok (.iload 5, 2) := by decide +kernel
theorem dX6_giveBack_94 : decode cX6_giveBack 94 = .ok (.invokestatic 86, 3) := by decide +kernel
theorem dX6_giveBack_97 : decode cX6_giveBack 97 = .ok (.ifCond .eq 29, 3) := by decide +kernel
theorem dX6_giveBack_100 : decode cX6_giveBack 100 = .ok (.aload_n 0, 1) := by decide +kernel
theorem dX6_giveBack_101 : decode cX6_giveBack 101 = .ok (.iload 4, 2) := by decide +kernel
theorem dX6_giveBack_103 : decode cX6_giveBack 103 = .ok (.iload 5, 2) := by decide +kernel
theorem dX6_giveBack_105 : decode cX6_giveBack 105 = .ok (.invokevirtual 96, 3) := by decide +kernel
theorem dX6_giveBack_108 : decode cX6_giveBack 108 = .ok (.ifCond .ne 18, 3) := by decide +kernel
theorem dX6_giveBack_111 : decode cX6_giveBack 111 = .ok (.aload_n 0, 1) := by decide +kernel
theorem dX6_giveBack_112 : decode cX6_giveBack 112 = .ok (.getfield 33, 3) := by decide +kernel
theorem dX6_giveBack_115 : decode cX6_giveBack 115 = .ok (.iload_n 1, 1) := by decide +kernel
theorem dX6_giveBack_116 : decode cX6_giveBack 116 = .ok (.dup2, 1) := by decide +kernel
theorem dX6_giveBack_117 : decode cX6_giveBack 117 = .ok (.iaload, 1) := by decide +kernel
theorem dX6_giveBack_118 : decode cX6_giveBack 118 = .ok (.iconst 1, 1) := by decide +kernel
theorem dX6_giveBack_119 : decode cX6_giveBack 119 = .ok (.iload 5, 2) := by decide +kernel
theorem dX6_giveBack_121 : decode cX6_giveBack 121 = .ok (.ishl, 1) := by decide +kernel
theorem dX6_giveBack_122 : decode cX6_giveBack 122 = .ok (.iconst (-1), 1) := by decide +kernel
theorem dX6_giveBack_123 : decode cX6_giveBack 123 = .ok (.ixor, 1) := by decide +kernel
theorem dX6_giveBack_124 : decode cX6_giveBack 124 = .ok (.iand, 1) := by decide +kernel
theorem dX6_giveBack_125 : decode cX6_giveBack 125 = .ok (.iastore, 1) := by decide +kernel
theorem dX6_giveBack_126 : decode cX6_giveBack 126 = .ok (.iinc 5 1, 3) := by decide +kernel
theorem dX6_giveBack_129 : decode cX6_giveBack 129 = .ok (.goto (-52), 3) := by decide +kernel
theorem dX6_giveBack_132 : decode cX6_giveBack 132 = .ok (.iconst 0, 1) := by decide +kernel
theorem dX6_giveBack_133 : decode cX6_giveBack 133 = .ok (.aload_n 0, 1) := by decide +kernel
theorem dX6_giveBack_134 : decode cX6_giveBack 134 = .ok (.getfield 27, 3) := by decide +kernel
theorem dX6_giveBack_137 : decode cX6_giveBack 137 = .ok (.iload_n 1, 1) := by decide +kernel
theorem dX6_giveBack_138 : decode cX6_giveBack 138 = .ok (.iaload, 1) := by decide +kernel
theorem dX6_giveBack_139 : decode cX6_giveBack 139 = .ok (.aload_n 0, 1) := by decide +kernel
theorem dX6_giveBack_140 : decode cX6_giveBack 140 = .ok (.iload 4, 2) := by decide +kernel
theorem dX6_giveBack_142 : decode cX6_giveBack 142 = .ok (.aload_n 0, 1) := by decide +kernel
theorem dX6_giveBack_143 : decode cX6_giveBack 143 = .ok (.getfield 33, 3) := by decide +kernel
theorem dX6_giveBack_146 : decode cX6_giveBack 146 = .ok (.iload_n 1, 1) := by decide +kernel
theorem dX6_giveBack_147 : decode cX6_giveBack 147 = .ok (.iaload, 1) := by decide +kernel
theorem dX6_giveBack_148 : decode cX6_giveBack 148 = .ok (.invokevirtual 137, 3) := by decide +kernel
theorem dX6_giveBack_151 : decode cX6_giveBack 151 = .ok (.isub, 1) := by decide +kernel
theorem dX6_giveBack_152 : decode cX6_giveBack 152 = .ok (.invokestatic 102, 3) := by decide +kernel
theorem dX6_giveBack_155 : decode cX6_giveBack 155 = .ok (.istore 5, 2) := by decide +kernel
theorem dX6_giveBack_157 : decode cX6_giveBack 157 = .ok (.aload_n 0, 1) := by decide +kernel
theorem dX6_giveBack_158 : decode cX6_giveBack 158 = .ok (.getfield 27, 3) := by decide +kernel
theorem dX6_giveBack_161 : decode cX6_giveBack 161 = .ok (.iload_n 1, 1) := by decide +kernel
theorem dX6_giveBack_162 : decode cX6_giveBack 162 = .ok (.dup2, 1) := by decide +kernel
theorem dX6_giveBack_163 : decode cX6_giveBack 163 = .ok (.iaload, 1) := by decide +kernel
theorem dX6_giveBack_164 : decode cX6_giveBack 164 = .ok (.iload 5, 2) := by decide +kernel
theorem dX6_giveBack_166 : decode cX6_giveBack 166 = .ok (.isub, 1) := by decide +kernel
theorem dX6_giveBack_167 : decode cX6_giveBack 167 = .ok (.iastore, 1) := by decide +kernel
theorem dX6_giveBack_168 : decode cX6_giveBack 168 = .ok (.iload 5, 2) := by decide +kernel
theorem dX6_giveBack_170 : decode cX6_giveBack 170 = .ok (.ireturn, 1) := by decide +kernel
theorem dX6_orderCount_0 : decode cX6_orderCount 0 = .ok (.aload_n 0, 1) := by decide +kernel
theorem dX6_orderCount_1 : decode cX6_orderCount 1 = .ok (.iconst 0, 1) := by decide +kernel
theorem dX6_orderCount_2 : decode cX6_orderCount 2 = .ok (.putfield 42, 3) := by decide +kernel
theorem dX6_orderCount_5 : decode cX6_orderCount 5 = .ok (.aload_n 0, 1) := by decide +kernel
theorem dX6_orderCount_6 : decode cX6_orderCount 6 = .ok (.getfield 55, 3) := by decide +kernel
theorem dX6_orderCount_9 : decode cX6_orderCount 9 = .ok (.ireturn, 1) := by decide +kernel
theorem dX6_told_0 : decode cX6_told 0 = .ok (.iload_n 2, 1) := by decide +kernel
theorem dX6_told_1 : decode cX6_told 1 = .ok (.tableswitch 60 0 3 #[31, 38, 45, 52], 31) := by decide +kernel
theorem dX6_told_32 : decode cX6_told 32 = .ok (.aload_n 0, 1) := by decide +kernel
theorem dX6_told_33 : decode cX6_told 33 = .ok (.getfield 27, 3) := by decide +kernel
theorem dX6_told_36 : decode cX6_told 36 = .ok (.iload_n 1, 1) := by decide +kernel
theorem dX6_told_37 : decode cX6_told 37 = .ok (.iaload, 1) := by decide +kernel
theorem dX6_told_38 : decode cX6_told 38 = .ok (.ireturn, 1) := by decide +kernel
theorem dX6_told_39 : decode cX6_told 39 = .ok (.aload_n 0, 1) := by decide +kernel
theorem dX6_told_40 : decode cX6_told 40 = .ok (.getfield 30, 3) := by decide +kernel
theorem dX6_told_43 : decode cX6_told 43 = .ok (.iload_n 1, 1) := by decide +kernel
theorem dX6_told_44 : decode cX6_told 44 = .ok (.iaload, 1) := by decide +kernel
theorem dX6_told_45 : decode cX6_told 45 = .ok (.ireturn, 1) := by decide +kernel
theorem dX6_told_46 : decode cX6_told 46 = .ok (.aload_n 0, 1) := by decide +kernel
theorem dX6_told_47 : decode cX6_told 47 = .ok (.getfield 33, 3) := by decide +kernel
theorem dX6_told_50 : decode cX6_told 50 = .ok (.iload_n 1, 1) := by decide +kernel
theorem dX6_told_51 : decode cX6_told 51 = .ok (.iaload, 1) := by decide +kernel
theorem dX6_told_52 : decode cX6_told 52 = .ok (.ireturn, 1) := by decide +kernel
theorem dX6_told_53 : decode cX6_told 53 = .ok (.aload_n 0, 1) := by decide +kernel
theorem dX6_told_54 : decode cX6_told 54 = .ok (.iload_n 1, 1) := by decide +kernel
theorem dX6_told_55 : decode cX6_told 55 = .ok (.iconst 1, 1) := by decide +kernel
theorem dX6_told_56 : decode cX6_told 56 = .ok (.iadd, 1) := by decide +kernel
theorem dX6_told_57 : decode cX6_told 57 = .ok (.invokevirtual 134, 3) := by decide +kernel
theorem dX6_told_60 : decode cX6_told 60 = .ok (.ireturn, 1) := by decide +kernel
theorem dX6_told_61 : decode cX6_told 61 = .ok (.aload_n 0, 1) := by decide +kernel
theorem dX6_told_62 : decode cX6_told 62 = .ok (.iload_n 1, 1) := by decide +kernel
theorem dX6_told_63 : decode cX6_told 63 = .ok (.iconst 1, 1) := by decide +kernel
theorem dX6_told_64 : decode cX6_told 64 = .ok (.iadd, 1) := by decide +kernel
theorem dX6_told_65 : decode cX6_told 65 = .ok (.invokevirtual 66, 3) := by decide +kernel
theorem dX6_told_68 : decode cX6_told 68 = .ok (.ireturn, 1) := by decide +kernel
theorem dX6_order_0 : decode cX6_order 0 = .ok (.aload_n 0, 1) := by decide +kernel
theorem dX6_order_1 : decode cX6_order 1 = .ok (.iconst 0, 1) := by decide +kernel
theorem dX6_order_2 : decode cX6_order 2 = .ok (.putfield 42, 3) := by decide +kernel
theorem dX6_order_5 : decode cX6_order 5 = .ok (.aload_n 0, 1) := by decide +kernel
theorem dX6_order_6 : decode cX6_order 6 = .ok (.iload_n 1, 1) := by decide +kernel
theorem dX6_order_7 : decode cX6_order 7 = .ok (.invokevirtual 155, 3) := by decide +kernel
theorem dX6_order_10 : decode cX6_order 10 = .ok (.ifCond .eq 21, 3) := by decide +kernel
theorem dX6_order_13 : decode cX6_order 13 = .ok (.iload_n 2, 1) := by decide +kernel
theorem dX6_order_14 : decode cX6_order 14 = .ok (.iconst 0, 1) := by decide +kernel
theorem dX6_order_15 : decode cX6_order 15 = .ok (.iconst 4, 1) := by decide +kernel
theorem dX6_order_16 : decode cX6_order 16 = .ok (.invokestatic 48, 3) := by decide +kernel
theorem dX6_order_19 : decode cX6_order 19 = .ok (.ifCond .eq 12, 3) := by decide +kernel
theorem dX6_order_22 : decode cX6_order 22 = .ok (.aload_n 0, 1) := by decide +kernel
theorem dX6_order_23 : decode cX6_order 23 = .ok (.iload_n 1, 1) := by decide +kernel
theorem dX6_order_24 : decode cX6_order 24 = .ok (.iload_n 2, 1) := by decide +kernel
theorem dX6_order_25 : decode cX6_order 25 = .ok (.invokevirtual 158, 3) := by decide +kernel
theorem dX6_order_28 : decode cX6_order 28 = .ok (.goto 8, 3) := by decide +kernel
theorem dX6_order_31 : decode cX6_order 31 = .ok (.aload_n 0, 1) := by decide +kernel
theorem dX6_order_32 : decode cX6_order 32 = .ok (.iconst 1, 1) := by decide +kernel
theorem dX6_order_33 : decode cX6_order 33 = .ok (.invokevirtual 58, 3) := by decide +kernel
theorem dX6_order_36 : decode cX6_order 36 = .ok (.ireturn, 1) := by decide +kernel
theorem dX6_pieces_0 : decode cX6_pieces 0 = .ok (.aload_n 0, 1) := by decide +kernel
theorem dX6_pieces_1 : decode cX6_pieces 1 = .ok (.iconst 0, 1) := by decide +kernel
theorem dX6_pieces_2 : decode cX6_pieces 2 = .ok (.putfield 42, 3) := by decide +kernel
theorem dX6_pieces_5 : decode cX6_pieces 5 = .ok (.aload_n 0, 1) := by decide +kernel
theorem dX6_pieces_6 : decode cX6_pieces 6 = .ok (.iload_n 1, 1) := by decide +kernel
theorem dX6_pieces_7 : decode cX6_pieces 7 = .ok (.invokevirtual 155, 3) := by decide +kernel
theorem dX6_pieces_10 : decode cX6_pieces 10 = .ok (.ifCond .eq 27, 3) := by decide +kernel
theorem dX6_pieces_13 : decode cX6_pieces 13 = .ok (.aload_n 0, 1) := by decide +kernel
theorem dX6_pieces_14 : decode cX6_pieces 14 = .ok (.iload_n 2, 1) := by decide +kernel
theorem dX6_pieces_15 : decode cX6_pieces 15 = .ok (.invokevirtual 62, 3) := by decide +kernel
theorem dX6_pieces_18 : decode cX6_pieces 18 = .ok (.ifCond .eq 19, 3) := by decide +kernel
theorem dX6_pieces_21 : decode cX6_pieces 21 = .ok (.aload_n 0, 1) := by decide +kernel
theorem dX6_pieces_22 : decode cX6_pieces 22 = .ok (.getfield 13, 3) := by decide +kernel
theorem dX6_pieces_25 : decode cX6_pieces 25 = .ok (.bipush 10, 2) := by decide +kernel
theorem dX6_pieces_27 : decode cX6_pieces 27 = .ok (.iload_n 1, 1) := by decide +kernel
theorem dX6_pieces_28 : decode cX6_pieces 28 = .ok (.iconst 1, 1) := by decide +kernel
theorem dX6_pieces_29 : decode cX6_pieces 29 = .ok (.iadd, 1) := by decide +kernel
theorem dX6_pieces_30 : decode cX6_pieces 30 = .ok (.imul, 1) := by decide +kernel
theorem dX6_pieces_31 : decode cX6_pieces 31 = .ok (.iload_n 2, 1) := by decide +kernel
theorem dX6_pieces_32 : decode cX6_pieces 32 = .ok (.iadd, 1) := by decide +kernel
theorem dX6_pieces_33 : decode cX6_pieces 33 = .ok (.iaload, 1) := by decide +kernel
theorem dX6_pieces_34 : decode cX6_pieces 34 = .ok (.goto 8, 3) := by decide +kernel
theorem dX6_pieces_37 : decode cX6_pieces 37 = .ok (.aload_n 0, 1) := by decide +kernel
theorem dX6_pieces_38 : decode cX6_pieces 38 = .ok (.iconst 1, 1) := by decide +kernel
theorem dX6_pieces_39 : decode cX6_pieces 39 = .ok (.invokevirtual 58, 3) := by decide +kernel
theorem dX6_pieces_42 : decode cX6_pieces 42 = .ok (.ireturn, 1) := by decide +kernel
theorem dX6_level_0 : decode cX6_level 0 = .ok (.aload_n 0, 1) := by decide +kernel
theorem dX6_level_1 : decode cX6_level 1 = .ok (.iconst 0, 1) := by decide +kernel
theorem dX6_level_2 : decode cX6_level 2 = .ok (.putfield 42, 3) := by decide +kernel
theorem dX6_level_5 : decode cX6_level 5 = .ok (.iconst 0, 1) := by decide +kernel
theorem dX6_level_6 : decode cX6_level 6 = .ok (.istore_n 1, 1) := by decide +kernel
theorem dX6_level_7 : decode cX6_level 7 = .ok (.iconst 0, 1) := by decide +kernel
theorem dX6_level_8 : decode cX6_level 8 = .ok (.istore_n 2, 1) := by decide +kernel
theorem dX6_level_9 : decode cX6_level 9 = .ok (.iconst 0, 1) := by decide +kernel
theorem dX6_level_10 : decode cX6_level 10 = .ok (.istore_n 3, 1) := by decide +kernel
theorem dX6_level_11 : decode cX6_level 11 = .ok (.iload_n 3, 1) := by decide +kernel
theorem dX6_level_12 : decode cX6_level 12 = .ok (.aload_n 0, 1) := by decide +kernel
theorem dX6_level_13 : decode cX6_level 13 = .ok (.getfield 55, 3) := by decide +kernel
theorem dX6_level_16 : decode cX6_level 16 = .ok (.if_icmp .ge 28, 3) := by decide +kernel
theorem dX6_level_19 : decode cX6_level 19 = .ok (.iload_n 1, 1) := by decide +kernel
theorem dX6_level_20 : decode cX6_level 20 = .ok (.aload_n 0, 1) := by decide +kernel
theorem dX6_level_21 : decode cX6_level 21 = .ok (.getfield 27, 3) := by decide +kernel
theorem dX6_level_24 : decode cX6_level 24 = .ok (.iload_n 3, 1) := by decide +kernel
theorem dX6_level_25 : decode cX6_level 25 = .ok (.iaload, 1) := by decide +kernel
theorem dX6_level_26 : decode cX6_level 26 = .ok (.iadd, 1) := by decide +kernel
theorem dX6_level_27 : decode cX6_level 27 = .ok (.istore_n 1, 1) := by decide +kernel
theorem dX6_level_28 : decode cX6_level 28 = .ok (.iload_n 2, 1) := by decide +kernel
theorem dX6_level_29 : decode cX6_level 29 = .ok (.aload_n 0, 1) := by decide +kernel
theorem dX6_level_30 : decode cX6_level 30 = .ok (.iload_n 3, 1) := by decide +kernel
theorem dX6_level_31 : decode cX6_level 31 = .ok (.iconst 1, 1) := by decide +kernel
theorem dX6_level_32 : decode cX6_level 32 = .ok (.iadd, 1) := by decide +kernel
theorem dX6_level_33 : decode cX6_level 33 = .ok (.invokevirtual 66, 3) := by decide +kernel
theorem dX6_level_36 : decode cX6_level 36 = .ok (.iadd, 1) := by decide +kernel
theorem dX6_level_37 : decode cX6_level 37 = .ok (.istore_n 2, 1) := by decide +kernel
theorem dX6_level_38 : decode cX6_level 38 = .ok (.iinc 3 1, 3) := by decide +kernel
theorem dX6_level_41 : decode cX6_level 41 = .ok (.goto (-30), 3) := by decide +kernel
theorem dX6_level_44 : decode cX6_level 44 = .ok (.iload_n 2, 1) := by decide +kernel
theorem dX6_level_45 : decode cX6_level 45 = .ok (.ifCond .ne 7, 3) := by decide +kernel
theorem dX6_level_48 : decode cX6_level 48 = .ok (.dconst 1, 1) := by decide +kernel
theorem dX6_level_49 : decode cX6_level 49 = .ok (.goto 8, 3) := by decide +kernel
theorem dX6_level_52 : decode cX6_level 52 = .ok (.iload_n 1, 1) := by decide +kernel
theorem dX6_level_53 : decode cX6_level 53 = .ok (.i2d, 1) := by decide +kernel
theorem dX6_level_54 : decode cX6_level 54 = .ok (.iload_n 2, 1) := by decide +kernel
theorem dX6_level_55 : decode cX6_level 55 = .ok (.i2d, 1) := by decide +kernel
theorem dX6_level_56 : decode cX6_level 56 = .ok (.ddiv, 1) := by decide +kernel
theorem dX6_level_57 : decode cX6_level 57 = .ok (.dreturn, 1) := by decide +kernel
theorem dX6_digest_0 : decode cX6_digest 0 = .ok (.aload_n 0, 1) := by decide +kernel
theorem dX6_digest_1 : decode cX6_digest 1 = .ok (.iconst 0, 1) := by decide +kernel
theorem dX6_digest_2 : decode cX6_digest 2 = .ok (.putfield 42, 3) := by decide +kernel
theorem dX6_digest_5 : decode cX6_digest 5 = .ok (.ldc2_w 161, 3) := by decide +kernel
theorem dX6_digest_8 : decode cX6_digest 8 = .ok (.aload_n 0, 1) := by decide +kernel
theorem dX6_digest_9 : decode cX6_digest 9 = .ok (.getfield 45, 3) := by decide +kernel
theorem dX6_digest_12 : decode cX6_digest 12 = .ok (.i2l, 1) := by decide +kernel
theorem dX6_digest_13 : decode cX6_digest 13 = .ok (.ladd, 1) := by decide +kernel
theorem dX6_digest_14 : decode cX6_digest 14 = .ok (.lstore_n 1, 1) := by decide +kernel
theorem dX6_digest_15 : decode cX6_digest 15 = .ok (.iconst 0, 1) := by decide +kernel
theorem dX6_digest_16 : decode cX6_digest 16 = .ok (.istore_n 3, 1) := by decide +kernel
theorem dX6_digest_17 : decode cX6_digest 17 = .ok (.iload_n 3, 1) := by decide +kernel
theorem dX6_digest_18 : decode cX6_digest 18 = .ok (.aload_n 0, 1) := by decide +kernel
theorem dX6_digest_19 : decode cX6_digest 19 = .ok (.getfield 45, 3) := by decide +kernel
theorem dX6_digest_22 : decode cX6_digest 22 = .ok (.if_icmp .ge 47, 3) := by decide +kernel
theorem dX6_digest_25 : decode cX6_digest 25 = .ok (.lload_n 1, 1) := by decide +kernel
theorem dX6_digest_26 : decode cX6_digest 26 = .ok (.ldc2_w 163, 3) := by decide +kernel
theorem dX6_digest_29 : decode cX6_digest 29 = .ok (.lmul, 1) := by decide +kernel
theorem dX6_digest_30 : decode cX6_digest 30 = .ok (.aload_n 0, 1) := by decide +kernel
theorem dX6_digest_31 : decode cX6_digest 31 = .ok (.getfield 16, 3) := by decide +kernel
theorem dX6_digest_34 : decode cX6_digest 34 = .ok (.iload_n 3, 1) := by decide +kernel
theorem dX6_digest_35 : decode cX6_digest 35 = .ok (.iaload, 1) := by decide +kernel
theorem dX6_digest_36 : decode cX6_digest 36 = .ok (.i2l, 1) := by decide +kernel
theorem dX6_digest_37 : decode cX6_digest 37 = .ok (.ladd, 1) := by decide +kernel
theorem dX6_digest_38 : decode cX6_digest 38 = .ok (.ldc2_w 163, 3) := by decide +kernel
theorem dX6_digest_41 : decode cX6_digest 41 = .ok (.lmul, 1) := by decide +kernel
theorem dX6_digest_42 : decode cX6_digest 42 = .ok (.aload_n 0, 1) := by decide +kernel
theorem dX6_digest_43 : decode cX6_digest 43 = .ok (.getfield 9, 3) := by decide +kernel
theorem dX6_digest_46 : decode cX6_digest 46 = .ok (.iload_n 3, 1) := by decide +kernel
theorem dX6_digest_47 : decode cX6_digest 47 = .ok (.iaload, 1) := by decide +kernel
theorem dX6_digest_48 : decode cX6_digest 48 = .ok (.i2l, 1) := by decide +kernel
theorem dX6_digest_49 : decode cX6_digest 49 = .ok (.ladd, 1) := by decide +kernel
theorem dX6_digest_50 : decode cX6_digest 50 = .ok (.ldc2_w 163, 3) := by decide +kernel
theorem dX6_digest_53 : decode cX6_digest 53 = .ok (.lmul, 1) := by decide +kernel
theorem dX6_digest_54 : decode cX6_digest 54 = .ok (.aload_n 0, 1) := by decide +kernel
theorem dX6_digest_55 : decode cX6_digest 55 = .ok (.getfield 13, 3) := by decide +kernel
theorem dX6_digest_58 : decode cX6_digest 58 = .ok (.iload_n 3, 1) := by decide +kernel
theorem dX6_digest_59 : decode cX6_digest 59 = .ok (.iaload, 1) := by decide +kernel
theorem dX6_digest_60 : decode cX6_digest 60 = .ok (.i2l, 1) := by decide +kernel
theorem dX6_digest_61 : decode cX6_digest 61 = .ok (.ladd, 1) := by decide +kernel
theorem dX6_digest_62 : decode cX6_digest 62 = .ok (.lstore_n 1, 1) := by decide +kernel
theorem dX6_digest_63 : decode cX6_digest 63 = .ok (.iinc 3 1, 3) := by decide +kernel
theorem dX6_digest_66 : decode cX6_digest 66 = .ok (.goto (-49), 3) := by decide +kernel
theorem dX6_digest_69 : decode cX6_digest 69 = .ok (.lload_n 1, 1) := by decide +kernel
theorem dX6_digest_70 : decode cX6_digest 70 = .ok (.ldc2_w 163, 3) := by decide +kernel
theorem dX6_digest_73 : decode cX6_digest 73 = .ok (.lmul, 1) := by decide +kernel
theorem dX6_digest_74 : decode cX6_digest 74 = .ok (.aload_n 0, 1) := by decide +kernel
theorem dX6_digest_75 : decode cX6_digest 75 = .ok (.getfield 69, 3) := by decide +kernel
theorem dX6_digest_78 : decode cX6_digest 78 = .ok (.i2l, 1) := by decide +kernel
theorem dX6_digest_79 : decode cX6_digest 79 = .ok (.ladd, 1) := by decide +kernel
theorem dX6_digest_80 : decode cX6_digest 80 = .ok (.ldc2_w 163, 3) := by decide +kernel
theorem dX6_digest_83 : decode cX6_digest 83 = .ok (.lmul, 1) := by decide +kernel
theorem dX6_digest_84 : decode cX6_digest 84 = .ok (.aload_n 0, 1) := by decide +kernel
theorem dX6_digest_85 : decode cX6_digest 85 = .ok (.getfield 20, 3) := by decide +kernel
theorem dX6_digest_88 : decode cX6_digest 88 = .ok (.i2l, 1) := by decide +kernel
theorem dX6_digest_89 : decode cX6_digest 89 = .ok (.ladd, 1) := by decide +kernel
theorem dX6_digest_90 : decode cX6_digest 90 = .ok (.ldc2_w 163, 3) := by decide +kernel
theorem dX6_digest_93 : decode cX6_digest 93 = .ok (.lmul, 1) := by decide +kernel
theorem dX6_digest_94 : decode cX6_digest 94 = .ok (.aload_n 0, 1) := by decide +kernel
theorem dX6_digest_95 : decode cX6_digest 95 = .ok (.getfield 52, 3) := by decide +kernel
theorem dX6_digest_98 : decode cX6_digest 98 = .ok (.i2l, 1) := by decide +kernel
theorem dX6_digest_99 : decode cX6_digest 99 = .ok (.ladd, 1) := by decide +kernel
theorem dX6_digest_100 : decode cX6_digest 100 = .ok (.lstore_n 1, 1) := by decide +kernel
theorem dX6_digest_101 : decode cX6_digest 101 = .ok (.iconst 0, 1) := by decide +kernel
theorem dX6_digest_102 : decode cX6_digest 102 = .ok (.istore_n 3, 1) := by decide +kernel
theorem dX6_digest_103 : decode cX6_digest 103 = .ok (.iload_n 3, 1) := by decide +kernel
theorem dX6_digest_104 : decode cX6_digest 104 = .ok (.bipush 6, 2) := by decide +kernel
theorem dX6_digest_106 : decode cX6_digest 106 = .ok (.aload_n 0, 1) := by decide +kernel
theorem dX6_digest_107 : decode cX6_digest 107 = .ok (.getfield 52, 3) := by decide +kernel
theorem dX6_digest_110 : decode cX6_digest 110 = .ok (.imul, 1) := by decide +kernel
theorem dX6_digest_111 : decode cX6_digest 111 = .ok (.if_icmp .ge 23, 3) := by decide +kernel
theorem dX6_digest_114 : decode cX6_digest 114 = .ok (.lload_n 1, 1) := by decide +kernel
theorem dX6_digest_115 : decode cX6_digest 115 = .ok (.ldc2_w 163, 3) := by decide +kernel
theorem dX6_digest_118 : decode cX6_digest 118 = .ok (.lmul, 1) := by decide +kernel
theorem dX6_digest_119 : decode cX6_digest 119 = .ok (.aload_n 0, 1) := by decide +kernel
theorem dX6_digest_120 : decode cX6_digest 120 = .ok (.getfield 24, 3) := by decide +kernel
theorem dX6_digest_123 : decode cX6_digest 123 = .ok (.iload_n 3, 1) := by decide +kernel
theorem dX6_digest_124 : decode cX6_digest 124 = .ok (.iaload, 1) := by decide +kernel
theorem dX6_digest_125 : decode cX6_digest 125 = .ok (.i2l, 1) := by decide +kernel
theorem dX6_digest_126 : decode cX6_digest 126 = .ok (.ladd, 1) := by decide +kernel
theorem dX6_digest_127 : decode cX6_digest 127 = .ok (.lstore_n 1, 1) := by decide +kernel
theorem dX6_digest_128 : decode cX6_digest 128 = .ok (.iinc 3 1, 3) := by decide +kernel
theorem dX6_digest_131 : decode cX6_digest 131 = .ok (.goto (-28), 3) := by decide +kernel
theorem dX6_digest_134 : decode cX6_digest 134 = .ok (.lload_n 1, 1) := by decide +kernel
theorem dX6_digest_135 : decode cX6_digest 135 = .ok (.ldc2_w 163, 3) := by decide +kernel
theorem dX6_digest_138 : decode cX6_digest 138 = .ok (.lmul, 1) := by decide +kernel
theorem dX6_digest_139 : decode cX6_digest 139 = .ok (.aload_n 0, 1) := by decide +kernel
theorem dX6_digest_140 : decode cX6_digest 140 = .ok (.getfield 55, 3) := by decide +kernel
theorem dX6_digest_143 : decode cX6_digest 143 = .ok (.i2l, 1) := by decide +kernel
theorem dX6_digest_144 : decode cX6_digest 144 = .ok (.ladd, 1) := by decide +kernel
theorem dX6_digest_145 : decode cX6_digest 145 = .ok (.lstore_n 1, 1) := by decide +kernel
theorem dX6_digest_146 : decode cX6_digest 146 = .ok (.iconst 0, 1) := by decide +kernel
theorem dX6_digest_147 : decode cX6_digest 147 = .ok (.istore_n 3, 1) := by decide +kernel
theorem dX6_digest_148 : decode cX6_digest 148 = .ok (.iload_n 3, 1) := by decide +kernel
theorem dX6_digest_149 : decode cX6_digest 149 = .ok (.aload_n 0, 1) := by decide +kernel
theorem dX6_digest_150 : decode cX6_digest 150 = .ok (.getfield 55, 3) := by decide +kernel
theorem dX6_digest_153 : decode cX6_digest 153 = .ok (.if_icmp .ge 39, 3) := by decide +kernel
theorem dX6_digest_156 : decode cX6_digest 156 = .ok (.iconst 0, 1) := by decide +kernel
theorem dX6_digest_157 : decode cX6_digest 157 = .ok (.istore 4, 2) := by decide +kernel
theorem dX6_digest_159 : decode cX6_digest 159 = .ok (.iload 4, 2) := by decide +kernel
theorem dX6_digest_161 : decode cX6_digest 161 = .ok (.iconst 5, 1) := by decide +kernel
theorem dX6_digest_162 : decode cX6_digest 162 = .ok (.if_icmp .ge 24, 3) := by decide +kernel
theorem dX6_digest_165 : decode cX6_digest 165 = .ok (.lload_n 1, 1) := by decide +kernel
theorem dX6_digest_166 : decode cX6_digest 166 = .ok (.ldc2_w 163, 3) := by decide +kernel
theorem dX6_digest_169 : decode cX6_digest 169 = .ok (.lmul, 1) := by decide +kernel
theorem dX6_digest_170 : decode cX6_digest 170 = .ok (.aload_n 0, 1) := by decide +kernel
theorem dX6_digest_171 : decode cX6_digest 171 = .ok (.iload_n 3, 1) := by decide +kernel
theorem dX6_digest_172 : decode cX6_digest 172 = .ok (.iload 4, 2) := by decide +kernel
theorem dX6_digest_174 : decode cX6_digest 174 = .ok (.invokevirtual 158, 3) := by decide +kernel
theorem dX6_digest_177 : decode cX6_digest 177 = .ok (.i2l, 1) := by decide +kernel
theorem dX6_digest_178 : decode cX6_digest 178 = .ok (.ladd, 1) := by decide +kernel
theorem dX6_digest_179 : decode cX6_digest 179 = .ok (.lstore_n 1, 1) := by decide +kernel
theorem dX6_digest_180 : decode cX6_digest 180 = .ok (.iinc 4 1, 3) := by decide +kernel
theorem dX6_digest_183 : decode cX6_digest 183 = .ok (.goto (-24), 3) := by decide +kernel
theorem dX6_digest_186 : decode cX6_digest 186 = .ok (.iinc 3 1, 3) := by decide +kernel
theorem dX6_digest_189 : decode cX6_digest 189 = .ok (.goto (-41), 3) := by decide +kernel
theorem dX6_digest_192 : decode cX6_digest 192 = .ok (.lload_n 1, 1) := by decide +kernel
theorem dX6_digest_193 : decode cX6_digest 193 = .ok (.lreturn, 1) := by decide +kernel
theorem dJ6_bitCount_0f7a4_0 : decode cJ6_bitCount_0f7a4 0 = .ok (.iload_n 0, 1) := by decide +kernel
theorem dJ6_bitCount_0f7a4_1 : decode cJ6_bitCount_0f7a4 1 = .ok (.iload_n 0, 1) := by decide +kernel
theorem dJ6_bitCount_0f7a4_2 : decode cJ6_bitCount_0f7a4 2 = .ok (.iconst 1, 1) := by decide +kernel
theorem dJ6_bitCount_0f7a4_3 : decode cJ6_bitCount_0f7a4 3 = .ok (.iushr, 1) := by decide +kernel
theorem dJ6_bitCount_0f7a4_4 : decode cJ6_bitCount_0f7a4 4 = .ok (.ldc_w 265, 3) := by decide +kernel
theorem dJ6_bitCount_0f7a4_7 : decode cJ6_bitCount_0f7a4 7 = .ok (.iand, 1) := by decide +kernel
theorem dJ6_bitCount_0f7a4_8 : decode cJ6_bitCount_0f7a4 8 = .ok (.isub, 1) := by decide +kernel
theorem dJ6_bitCount_0f7a4_9 : decode cJ6_bitCount_0f7a4 9 = .ok (.istore_n 0, 1) := by decide +kernel
theorem dJ6_bitCount_0f7a4_10 : decode cJ6_bitCount_0f7a4 10 = .ok (.iload_n 0, 1) := by decide +kernel
theorem dJ6_bitCount_0f7a4_11 : decode cJ6_bitCount_0f7a4 11 = .ok (.ldc_w 266, 3) := by decide +kernel
theorem dJ6_bitCount_0f7a4_14 : decode cJ6_bitCount_0f7a4 14 = .ok (.iand, 1) := by decide +kernel
theorem dJ6_bitCount_0f7a4_15 : decode cJ6_bitCount_0f7a4 15 = .ok (.iload_n 0, 1) := by decide +kernel
theorem dJ6_bitCount_0f7a4_16 : decode cJ6_bitCount_0f7a4 16 = .ok (.iconst 2, 1) := by decide +kernel
theorem dJ6_bitCount_0f7a4_17 : decode cJ6_bitCount_0f7a4 17 = .ok (.iushr, 1) := by decide +kernel
theorem dJ6_bitCount_0f7a4_18 : decode cJ6_bitCount_0f7a4 18 = .ok (.ldc_w 266, 3) := by decide +kernel
theorem dJ6_bitCount_0f7a4_21 : decode cJ6_bitCount_0f7a4 21 = .ok (.iand, 1) := by decide +kernel
theorem dJ6_bitCount_0f7a4_22 : decode cJ6_bitCount_0f7a4 22 = .ok (.iadd, 1) := by decide +kernel
theorem dJ6_bitCount_0f7a4_23 : decode cJ6_bitCount_0f7a4 23 = .ok (.istore_n 0, 1) := by decide +kernel
theorem dJ6_bitCount_0f7a4_24 : decode cJ6_bitCount_0f7a4 24 = .ok (.iload_n 0, 1) := by decide +kernel
theorem dJ6_bitCount_0f7a4_25 : decode cJ6_bitCount_0f7a4 25 = .ok (.iload_n 0, 1) := by decide +kernel
theorem dJ6_bitCount_0f7a4_26 : decode cJ6_bitCount_0f7a4 26 = .ok (.iconst 4, 1) := by decide +kernel
theorem dJ6_bitCount_0f7a4_27 : decode cJ6_bitCount_0f7a4 27 = .ok (.iushr, 1) := by decide +kernel
theorem dJ6_bitCount_0f7a4_28 : decode cJ6_bitCount_0f7a4 28 = .ok (.iadd, 1) := by decide +kernel
theorem dJ6_bitCount_0f7a4_29 : decode cJ6_bitCount_0f7a4 29 = .ok (.ldc_w 267, 3) := by decide +kernel
theorem dJ6_bitCount_0f7a4_32 : decode cJ6_bitCount_0f7a4 32 = .ok (.iand, 1) := by decide +kernel
theorem dJ6_bitCount_0f7a4_33 : decode cJ6_bitCount_0f7a4 33 = .ok (.istore_n 0, 1) := by decide +kernel
theorem dJ6_bitCount_0f7a4_34 : decode cJ6_bitCount_0f7a4 34 = .ok (.iload_n 0, 1) := by decide +kernel
theorem dJ6_bitCount_0f7a4_35 : decode cJ6_bitCount_0f7a4 35 = .ok (.iload_n 0, 1) := by decide +kernel
theorem dJ6_bitCount_0f7a4_36 : decode cJ6_bitCount_0f7a4 36 = .ok (.bipush 8, 2) := by decide +kernel
theorem dJ6_bitCount_0f7a4_38 : decode cJ6_bitCount_0f7a4 38 = .ok (.iushr, 1) := by decide +kernel
theorem dJ6_bitCount_0f7a4_39 : decode cJ6_bitCount_0f7a4 39 = .ok (.iadd, 1) := by decide +kernel
theorem dJ6_bitCount_0f7a4_40 : decode cJ6_bitCount_0f7a4 40 = .ok (.istore_n 0, 1) := by decide +kernel
theorem dJ6_bitCount_0f7a4_41 : decode cJ6_bitCount_0f7a4 41 = .ok (.iload_n 0, 1) := by decide +kernel
theorem dJ6_bitCount_0f7a4_42 : decode cJ6_bitCount_0f7a4 42 = .ok (.iload_n 0, 1) := by decide +kernel
theorem dJ6_bitCount_0f7a4_43 : decode cJ6_bitCount_0f7a4 43 = .ok (.bipush 16, 2) := by decide +kernel
theorem dJ6_bitCount_0f7a4_45 : decode cJ6_bitCount_0f7a4 45 = .ok (.iushr, 1) := by decide +kernel
theorem dJ6_bitCount_0f7a4_46 : decode cJ6_bitCount_0f7a4 46 = .ok (.iadd, 1) := by decide +kernel
theorem dJ6_bitCount_0f7a4_47 : decode cJ6_bitCount_0f7a4 47 = .ok (.istore_n 0, 1) := by decide +kernel
theorem dJ6_bitCount_0f7a4_48 : decode cJ6_bitCount_0f7a4 48 = .ok (.iload_n 0, 1) := by decide +kernel
theorem dJ6_bitCount_0f7a4_49 : decode cJ6_bitCount_0f7a4 49 = .ok (.bipush 63, 2) := by decide +kernel
theorem dJ6_bitCount_0f7a4_51 : decode cJ6_bitCount_0f7a4 51 = .ok (.iand, 1) := by decide +kernel
theorem dJ6_bitCount_0f7a4_52 : decode cJ6_bitCount_0f7a4 52 = .ok (.ireturn, 1) := by decide +kernel
theorem dJ9_max_7cf53_0 : decode cJ9_max_7cf53 0 = .ok (.iload_n 0, 1) := by decide +kernel
theorem dJ9_max_7cf53_1 : decode cJ9_max_7cf53 1 = .ok (.iload_n 1, 1) := by decide +kernel
theorem dJ9_max_7cf53_2 : decode cJ9_max_7cf53 2 = .ok (.if_icmp .lt 7, 3) := by decide +kernel
theorem dJ9_max_7cf53_5 : decode cJ9_max_7cf53 5 = .ok (.iload_n 0, 1) := by decide +kernel
theorem dJ9_max_7cf53_6 : decode cJ9_max_7cf53 6 = .ok (.goto 4, 3) := by decide +kernel
theorem dJ9_max_7cf53_9 : decode cJ9_max_7cf53 9 = .ok (.iload_n 1, 1) := by decide +kernel
theorem dJ9_max_7cf53_10 : decode cJ9_max_7cf53 10 = .ok (.ireturn, 1) := by decide +kernel
theorem dJ9_min_7cf53_0 : decode cJ9_min_7cf53 0 = .ok (.iload_n 0, 1) := by decide +kernel
theorem dJ9_min_7cf53_1 : decode cJ9_min_7cf53 1 = .ok (.iload_n 1, 1) := by decide +kernel
theorem dJ9_min_7cf53_2 : decode cJ9_min_7cf53 2 = .ok (.if_icmp .gt 7, 3) := by decide +kernel
theorem dJ9_min_7cf53_5 : decode cJ9_min_7cf53 5 = .ok (.iload_n 0, 1) := by decide +kernel
theorem dJ9_min_7cf53_6 : decode cJ9_min_7cf53 6 = .ok (.goto 4, 3) := by decide +kernel
theorem dJ9_min_7cf53_9 : decode cJ9_min_7cf53 9 = .ok (.iload_n 1, 1) := by decide +kernel
theorem dJ9_min_7cf53_10 : decode cJ9_min_7cf53 10 = .ok (.ireturn, 1) := by decide +kernel
theorem dJ9_min_f86c9_0 : decode cJ9_min_f86c9 0 = .ok (.lload_n 0, 1) := by decide +kernel
theorem dJ9_min_f86c9_1 : decode cJ9_min_f86c9 1 = .ok (.lload_n 2, 1) := by decide +kernel
theorem dJ9_min_f86c9_2 : decode cJ9_min_f86c9 2 = .ok (.lcmp, 1) := by decide +kernel
theorem dJ9_min_f86c9_3 : decode cJ9_min_f86c9 3 = .ok (.ifCond .gt 7, 3) := by decide +kernel
theorem dJ9_min_f86c9_6 : decode cJ9_min_f86c9 6 = .ok (.lload_n 0, 1) := by decide +kernel
theorem dJ9_min_f86c9_7 : decode cJ9_min_f86c9 7 = .ok (.goto 4, 3) := by decide +kernel
theorem dJ9_min_f86c9_10 : decode cJ9_min_f86c9 10 = .ok (.lload_n 2, 1) := by decide +kernel
theorem dJ9_min_f86c9_11 : decode cJ9_min_f86c9 11 = .ok (.lreturn, 1) := by decide +kernel
theorem dJ7_fill_53178_0 : decode cJ7_fill_53178 0 = .ok (.iconst 0, 1) := by decide +kernel
theorem dJ7_fill_53178_1 : decode cJ7_fill_53178 1 = .ok (.istore_n 2, 1) := by decide +kernel
theorem dJ7_fill_53178_2 : decode cJ7_fill_53178 2 = .ok (.aload_n 0, 1) := by decide +kernel
theorem dJ7_fill_53178_3 : decode cJ7_fill_53178 3 = .ok (.arraylength, 1) := by decide +kernel
theorem dJ7_fill_53178_4 : decode cJ7_fill_53178 4 = .ok (.istore_n 3, 1) := by decide +kernel
theorem dJ7_fill_53178_5 : decode cJ7_fill_53178 5 = .ok (.iload_n 2, 1) := by decide +kernel
theorem dJ7_fill_53178_6 : decode cJ7_fill_53178 6 = .ok (.iload_n 3, 1) := by decide +kernel
theorem dJ7_fill_53178_7 : decode cJ7_fill_53178 7 = .ok (.if_icmp .ge 13, 3) := by decide +kernel
theorem dJ7_fill_53178_10 : decode cJ7_fill_53178 10 = .ok (.aload_n 0, 1) := by decide +kernel
theorem dJ7_fill_53178_11 : decode cJ7_fill_53178 11 = .ok (.iload_n 2, 1) := by decide +kernel
theorem dJ7_fill_53178_12 : decode cJ7_fill_53178 12 = .ok (.iload_n 1, 1) := by decide +kernel
theorem dJ7_fill_53178_13 : decode cJ7_fill_53178 13 = .ok (.iastore, 1) := by decide +kernel
theorem dJ7_fill_53178_14 : decode cJ7_fill_53178 14 = .ok (.iinc 2 1, 3) := by decide +kernel
theorem dJ7_fill_53178_17 : decode cJ7_fill_53178 17 = .ok (.goto (-12), 3) := by decide +kernel
theorem dJ7_fill_53178_20 : decode cJ7_fill_53178 20 = .ok (.return_, 1) := by decide +kernel
theorem dL_addArticle_0 : decode cL_addArticle 0 = .ok (.aload_n 3, 1) := by decide +kernel
theorem dL_addArticle_1 : decode cL_addArticle 1 = .ok (.iconst 0, 1) := by decide +kernel
theorem dL_addArticle_2 : decode cL_addArticle 2 = .ok (.aload_n 0, 1) := by decide +kernel
theorem dL_addArticle_3 : decode cL_addArticle 3 = .ok (.iload_n 1, 1) := by decide +kernel
theorem dL_addArticle_4 : decode cL_addArticle 4 = .ok (.iload_n 2, 1) := by decide +kernel
theorem dL_addArticle_5 : decode cL_addArticle 5 = .ok (.invokevirtual 7, 3) := by decide +kernel
theorem dL_addArticle_8 : decode cL_addArticle 8 = .ok (.i2l, 1) := by decide +kernel
theorem dL_addArticle_9 : decode cL_addArticle 9 = .ok (.lastore, 1) := by decide +kernel
theorem dL_addArticle_10 : decode cL_addArticle 10 = .ok (.goto 11, 3) := by decide +kernel
theorem dL_addArticle_13 : decode cL_addArticle 13 = .ok (.astore 4, 2) := by decide +kernel
theorem dL_addArticle_15 : decode cL_addArticle 15 = .ok (.iconst 1, 1) := by decide +kernel
theorem dL_addArticle_16 : decode cL_addArticle 16 = .ok (.ireturn, 1) := by decide +kernel
theorem dL_addArticle_17 : decode cL_addArticle 17 = .ok (.astore 4, 2) := by decide +kernel
theorem dL_addArticle_19 : decode cL_addArticle 19 = .ok (.iconst 2, 1) := by decide +kernel
theorem dL_addArticle_20 : decode cL_addArticle 20 = .ok (.ireturn, 1) := by decide +kernel
theorem dL_addArticle_21 : decode cL_addArticle 21 = .ok (.iconst 0, 1) := by decide +kernel
theorem dL_addArticle_22 : decode cL_addArticle 22 = .ok (.ireturn, 1) := by decide +kernel
theorem dL_setPrice_0 : decode cL_setPrice 0 = .ok (.aload_n 3, 1) := by decide +kernel
theorem dL_setPrice_1 : decode cL_setPrice 1 = .ok (.iconst 0, 1) := by decide +kernel
theorem dL_setPrice_2 : decode cL_setPrice 2 = .ok (.aload_n 0, 1) := by decide +kernel
theorem dL_setPrice_3 : decode cL_setPrice 3 = .ok (.iload_n 1, 1) := by decide +kernel
theorem dL_setPrice_4 : decode cL_setPrice 4 = .ok (.iload_n 2, 1) := by decide +kernel
theorem dL_setPrice_5 : decode cL_setPrice 5 = .ok (.invokevirtual 17, 3) := by decide +kernel
theorem dL_setPrice_8 : decode cL_setPrice 8 = .ok (.i2l, 1) := by decide +kernel
theorem dL_setPrice_9 : decode cL_setPrice 9 = .ok (.lastore, 1) := by decide +kernel
theorem dL_setPrice_10 : decode cL_setPrice 10 = .ok (.goto 11, 3) := by decide +kernel
theorem dL_setPrice_13 : decode cL_setPrice 13 = .ok (.astore 4, 2) := by decide +kernel
theorem dL_setPrice_15 : decode cL_setPrice 15 = .ok (.iconst 1, 1) := by decide +kernel
theorem dL_setPrice_16 : decode cL_setPrice 16 = .ok (.ireturn, 1) := by decide +kernel
theorem dL_setPrice_17 : decode cL_setPrice 17 = .ok (.astore 4, 2) := by decide +kernel
theorem dL_setPrice_19 : decode cL_setPrice 19 = .ok (.iconst 2, 1) := by decide +kernel
theorem dL_setPrice_20 : decode cL_setPrice 20 = .ok (.ireturn, 1) := by decide +kernel
theorem dL_setPrice_21 : decode cL_setPrice 21 = .ok (.iconst 0, 1) := by decide +kernel
theorem dL_setPrice_22 : decode cL_setPrice 22 = .ok (.ireturn, 1) := by decide +kernel
theorem dL_put_0 : decode cL_put 0 = .ok (.aload_n 3, 1) := by decide +kernel
theorem dL_put_1 : decode cL_put 1 = .ok (.iconst 0, 1) := by decide +kernel
theorem dL_put_2 : decode cL_put 2 = .ok (.aload_n 0, 1) := by decide +kernel
theorem dL_put_3 : decode cL_put 3 = .ok (.iload_n 1, 1) := by decide +kernel
theorem dL_put_4 : decode cL_put 4 = .ok (.iload_n 2, 1) := by decide +kernel
theorem dL_put_5 : decode cL_put 5 = .ok (.invokevirtual 22, 3) := by decide +kernel
theorem dL_put_8 : decode cL_put 8 = .ok (.i2l, 1) := by decide +kernel
theorem dL_put_9 : decode cL_put 9 = .ok (.lastore, 1) := by decide +kernel
theorem dL_put_10 : decode cL_put 10 = .ok (.goto 11, 3) := by decide +kernel
theorem dL_put_13 : decode cL_put 13 = .ok (.astore 4, 2) := by decide +kernel
theorem dL_put_15 : decode cL_put 15 = .ok (.iconst 1, 1) := by decide +kernel
theorem dL_put_16 : decode cL_put 16 = .ok (.ireturn, 1) := by decide +kernel
theorem dL_put_17 : decode cL_put 17 = .ok (.astore 4, 2) := by decide +kernel
theorem dL_put_19 : decode cL_put 19 = .ok (.iconst 2, 1) := by decide +kernel
theorem dL_put_20 : decode cL_put 20 = .ok (.ireturn, 1) := by decide +kernel
theorem dL_put_21 : decode cL_put 21 = .ok (.iconst 0, 1) := by decide +kernel
theorem dL_put_22 : decode cL_put 22 = .ok (.ireturn, 1) := by decide +kernel
theorem dL_setShipping_0 : decode cL_setShipping 0 = .ok (.aload_n 3, 1) := by decide +kernel
theorem dL_setShipping_1 : decode cL_setShipping 1 = .ok (.iconst 0, 1) := by decide +kernel
theorem dL_setShipping_2 : decode cL_setShipping 2 = .ok (.aload_n 0, 1) := by decide +kernel
theorem dL_setShipping_3 : decode cL_setShipping 3 = .ok (.iload_n 1, 1) := by decide +kernel
theorem dL_setShipping_4 : decode cL_setShipping 4 = .ok (.iload_n 2, 1) := by decide +kernel
theorem dL_setShipping_5 : decode cL_setShipping 5 = .ok (.invokevirtual 25, 3) := by decide +kernel
theorem dL_setShipping_8 : decode cL_setShipping 8 = .ok (.i2l, 1) := by decide +kernel
theorem dL_setShipping_9 : decode cL_setShipping 9 = .ok (.lastore, 1) := by decide +kernel
theorem dL_setShipping_10 : decode cL_setShipping 10 = .ok (.goto 7, 3) := by decide +kernel
theorem dL_setShipping_13 : decode cL_setShipping 13 = .ok (.astore 4, 2) := by decide +kernel
theorem dL_setShipping_15 : decode cL_setShipping 15 = .ok (.iconst 1, 1) := by decide +kernel
theorem dL_setShipping_16 : decode cL_setShipping 16 = .ok (.ireturn, 1) := by decide +kernel
theorem dL_setShipping_17 : decode cL_setShipping 17 = .ok (.iconst 0, 1) := by decide +kernel
theorem dL_setShipping_18 : decode cL_setShipping 18 = .ok (.ireturn, 1) := by decide +kernel
theorem dL_addCoupon_0 : decode cL_addCoupon 0 = .ok (.aload 6, 2) := by decide +kernel
theorem dL_addCoupon_2 : decode cL_addCoupon 2 = .ok (.iconst 0, 1) := by decide +kernel
theorem dL_addCoupon_3 : decode cL_addCoupon 3 = .ok (.aload_n 0, 1) := by decide +kernel
theorem dL_addCoupon_4 : decode cL_addCoupon 4 = .ok (.iload_n 1, 1) := by decide +kernel
theorem dL_addCoupon_5 : decode cL_addCoupon 5 = .ok (.iload_n 2, 1) := by decide +kernel
theorem dL_addCoupon_6 : decode cL_addCoupon 6 = .ok (.iload_n 3, 1) := by decide +kernel
theorem dL_addCoupon_7 : decode cL_addCoupon 7 = .ok (.iload 4, 2) := by decide +kernel
theorem dL_addCoupon_9 : decode cL_addCoupon 9 = .ok (.iload 5, 2) := by decide +kernel
theorem dL_addCoupon_11 : decode cL_addCoupon 11 = .ok (.invokevirtual 28, 3) := by decide +kernel
theorem dL_addCoupon_14 : decode cL_addCoupon 14 = .ok (.i2l, 1) := by decide +kernel
theorem dL_addCoupon_15 : decode cL_addCoupon 15 = .ok (.lastore, 1) := by decide +kernel
theorem dL_addCoupon_16 : decode cL_addCoupon 16 = .ok (.goto 11, 3) := by decide +kernel
theorem dL_addCoupon_19 : decode cL_addCoupon 19 = .ok (.astore 7, 2) := by decide +kernel
theorem dL_addCoupon_21 : decode cL_addCoupon 21 = .ok (.iconst 1, 1) := by decide +kernel
theorem dL_addCoupon_22 : decode cL_addCoupon 22 = .ok (.ireturn, 1) := by decide +kernel
theorem dL_addCoupon_23 : decode cL_addCoupon 23 = .ok (.astore 7, 2) := by decide +kernel
theorem dL_addCoupon_25 : decode cL_addCoupon 25 = .ok (.iconst 2, 1) := by decide +kernel
theorem dL_addCoupon_26 : decode cL_addCoupon 26 = .ok (.ireturn, 1) := by decide +kernel
theorem dL_addCoupon_27 : decode cL_addCoupon 27 = .ok (.iconst 0, 1) := by decide +kernel
theorem dL_addCoupon_28 : decode cL_addCoupon 28 = .ok (.ireturn, 1) := by decide +kernel
theorem dL_setUses_0 : decode cL_setUses 0 = .ok (.aload_n 3, 1) := by decide +kernel
theorem dL_setUses_1 : decode cL_setUses 1 = .ok (.iconst 0, 1) := by decide +kernel
theorem dL_setUses_2 : decode cL_setUses 2 = .ok (.aload_n 0, 1) := by decide +kernel
theorem dL_setUses_3 : decode cL_setUses 3 = .ok (.iload_n 1, 1) := by decide +kernel
theorem dL_setUses_4 : decode cL_setUses 4 = .ok (.iload_n 2, 1) := by decide +kernel
theorem dL_setUses_5 : decode cL_setUses 5 = .ok (.invokevirtual 32, 3) := by decide +kernel
theorem dL_setUses_8 : decode cL_setUses 8 = .ok (.i2l, 1) := by decide +kernel
theorem dL_setUses_9 : decode cL_setUses 9 = .ok (.lastore, 1) := by decide +kernel
theorem dL_setUses_10 : decode cL_setUses 10 = .ok (.goto 11, 3) := by decide +kernel
theorem dL_setUses_13 : decode cL_setUses 13 = .ok (.astore 4, 2) := by decide +kernel
theorem dL_setUses_15 : decode cL_setUses 15 = .ok (.iconst 1, 1) := by decide +kernel
theorem dL_setUses_16 : decode cL_setUses 16 = .ok (.ireturn, 1) := by decide +kernel
theorem dL_setUses_17 : decode cL_setUses 17 = .ok (.astore 4, 2) := by decide +kernel
theorem dL_setUses_19 : decode cL_setUses 19 = .ok (.iconst 2, 1) := by decide +kernel
theorem dL_setUses_20 : decode cL_setUses 20 = .ok (.ireturn, 1) := by decide +kernel
theorem dL_setUses_21 : decode cL_setUses 21 = .ok (.iconst 0, 1) := by decide +kernel
theorem dL_setUses_22 : decode cL_setUses 22 = .ok (.ireturn, 1) := by decide +kernel
theorem dL_matching_0 : decode cL_matching 0 = .ok (.aload_n 2, 1) := by decide +kernel
theorem dL_matching_1 : decode cL_matching 1 = .ok (.iconst 0, 1) := by decide +kernel
theorem dL_matching_2 : decode cL_matching 2 = .ok (.aload_n 0, 1) := by decide +kernel
theorem dL_matching_3 : decode cL_matching 3 = .ok (.iload_n 1, 1) := by decide +kernel
theorem dL_matching_4 : decode cL_matching 4 = .ok (.invokevirtual 35, 3) := by decide +kernel
theorem dL_matching_7 : decode cL_matching 7 = .ok (.i2l, 1) := by decide +kernel
theorem dL_matching_8 : decode cL_matching 8 = .ok (.lastore, 1) := by decide +kernel
theorem dL_matching_9 : decode cL_matching 9 = .ok (.goto 6, 3) := by decide +kernel
theorem dL_matching_12 : decode cL_matching 12 = .ok (.astore_n 3, 1) := by decide +kernel
theorem dL_matching_13 : decode cL_matching 13 = .ok (.iconst 1, 1) := by decide +kernel
theorem dL_matching_14 : decode cL_matching 14 = .ok (.ireturn, 1) := by decide +kernel
theorem dL_matching_15 : decode cL_matching 15 = .ok (.iconst 0, 1) := by decide +kernel
theorem dL_matching_16 : decode cL_matching 16 = .ok (.ireturn, 1) := by decide +kernel
theorem dL_fits_0 : decode cL_fits 0 = .ok (.aload_n 2, 1) := by decide +kernel
theorem dL_fits_1 : decode cL_fits 1 = .ok (.iconst 0, 1) := by decide +kernel
theorem dL_fits_2 : decode cL_fits 2 = .ok (.aload_n 0, 1) := by decide +kernel
theorem dL_fits_3 : decode cL_fits 3 = .ok (.iload_n 1, 1) := by decide +kernel
theorem dL_fits_4 : decode cL_fits 4 = .ok (.invokevirtual 39, 3) := by decide +kernel
theorem dL_fits_7 : decode cL_fits 7 = .ok (.ifCond .eq 7, 3) := by decide +kernel
theorem dL_fits_10 : decode cL_fits 10 = .ok (.lconst 1, 1) := by decide +kernel
theorem dL_fits_11 : decode cL_fits 11 = .ok (.goto 4, 3) := by decide +kernel
theorem dL_fits_14 : decode cL_fits 14 = .ok (.lconst 0, 1) := by decide +kernel
theorem dL_fits_15 : decode cL_fits 15 = .ok (.lastore, 1) := by decide +kernel
theorem dL_fits_16 : decode cL_fits 16 = .ok (.goto 6, 3) := by decide +kernel
theorem dL_fits_19 : decode cL_fits 19 = .ok (.astore_n 3, 1) := by decide +kernel
theorem dL_fits_20 : decode cL_fits 20 = .ok (.iconst 1, 1) := by decide +kernel
theorem dL_fits_21 : decode cL_fits 21 = .ok (.ireturn, 1) := by decide +kernel
theorem dL_fits_22 : decode cL_fits 22 = .ok (.iconst 0, 1) := by decide +kernel
theorem dL_fits_23 : decode cL_fits 23 = .ok (.ireturn, 1) := by decide +kernel
theorem dL_missing_0 : decode cL_missing 0 = .ok (.aload_n 2, 1) := by decide +kernel
theorem dL_missing_1 : decode cL_missing 1 = .ok (.iconst 0, 1) := by decide +kernel
theorem dL_missing_2 : decode cL_missing 2 = .ok (.aload_n 0, 1) := by decide +kernel
theorem dL_missing_3 : decode cL_missing 3 = .ok (.iload_n 1, 1) := by decide +kernel
theorem dL_missing_4 : decode cL_missing 4 = .ok (.invokevirtual 43, 3) := by decide +kernel
theorem dL_missing_7 : decode cL_missing 7 = .ok (.i2l, 1) := by decide +kernel
theorem dL_missing_8 : decode cL_missing 8 = .ok (.lastore, 1) := by decide +kernel
theorem dL_missing_9 : decode cL_missing 9 = .ok (.goto 6, 3) := by decide +kernel
theorem dL_missing_12 : decode cL_missing 12 = .ok (.astore_n 3, 1) := by decide +kernel
theorem dL_missing_13 : decode cL_missing 13 = .ok (.iconst 1, 1) := by decide +kernel
theorem dL_missing_14 : decode cL_missing 14 = .ok (.ireturn, 1) := by decide +kernel
theorem dL_missing_15 : decode cL_missing 15 = .ok (.iconst 0, 1) := by decide +kernel
theorem dL_missing_16 : decode cL_missing 16 = .ok (.ireturn, 1) := by decide +kernel
theorem dL_isAllowed_0 : decode cL_isAllowed 0 = .ok (.aload_n 2, 1) := by decide +kernel
theorem dL_isAllowed_1 : decode cL_isAllowed 1 = .ok (.iconst 0, 1) := by decide +kernel
theorem dL_isAllowed_2 : decode cL_isAllowed 2 = .ok (.aload_n 0, 1) := by decide +kernel
theorem dL_isAllowed_3 : decode cL_isAllowed 3 = .ok (.iload_n 1, 1) := by decide +kernel
theorem dL_isAllowed_4 : decode cL_isAllowed 4 = .ok (.invokevirtual 46, 3) := by decide +kernel
theorem dL_isAllowed_7 : decode cL_isAllowed 7 = .ok (.ifCond .eq 7, 3) := by decide +kernel
theorem dL_isAllowed_10 : decode cL_isAllowed 10 = .ok (.lconst 1, 1) := by decide +kernel
theorem dL_isAllowed_11 : decode cL_isAllowed 11 = .ok (.goto 4, 3) := by decide +kernel
theorem dL_isAllowed_14 : decode cL_isAllowed 14 = .ok (.lconst 0, 1) := by decide +kernel
theorem dL_isAllowed_15 : decode cL_isAllowed 15 = .ok (.lastore, 1) := by decide +kernel
theorem dL_isAllowed_16 : decode cL_isAllowed 16 = .ok (.goto 6, 3) := by decide +kernel
theorem dL_isAllowed_19 : decode cL_isAllowed 19 = .ok (.astore_n 3, 1) := by decide +kernel
theorem dL_isAllowed_20 : decode cL_isAllowed 20 = .ok (.iconst 1, 1) := by decide +kernel
theorem dL_isAllowed_21 : decode cL_isAllowed 21 = .ok (.ireturn, 1) := by decide +kernel
theorem dL_isAllowed_22 : decode cL_isAllowed 22 = .ok (.iconst 0, 1) := by decide +kernel
theorem dL_isAllowed_23 : decode cL_isAllowed 23 = .ok (.ireturn, 1) := by decide +kernel
theorem dL_goods_0 : decode cL_goods 0 = .ok (.aload_n 2, 1) := by decide +kernel
theorem dL_goods_1 : decode cL_goods 1 = .ok (.iconst 0, 1) := by decide +kernel
theorem dL_goods_2 : decode cL_goods 2 = .ok (.aload_n 0, 1) := by decide +kernel
theorem dL_goods_3 : decode cL_goods 3 = .ok (.iload_n 1, 1) := by decide +kernel
theorem dL_goods_4 : decode cL_goods 4 = .ok (.invokevirtual 49, 3) := by decide +kernel
theorem dL_goods_7 : decode cL_goods 7 = .ok (.i2l, 1) := by decide +kernel
theorem dL_goods_8 : decode cL_goods 8 = .ok (.lastore, 1) := by decide +kernel
theorem dL_goods_9 : decode cL_goods 9 = .ok (.goto 9, 3) := by decide +kernel
theorem dL_goods_12 : decode cL_goods 12 = .ok (.astore_n 3, 1) := by decide +kernel
theorem dL_goods_13 : decode cL_goods 13 = .ok (.iconst 1, 1) := by decide +kernel
theorem dL_goods_14 : decode cL_goods 14 = .ok (.ireturn, 1) := by decide +kernel
theorem dL_goods_15 : decode cL_goods 15 = .ok (.astore_n 3, 1) := by decide +kernel
theorem dL_goods_16 : decode cL_goods 16 = .ok (.iconst 2, 1) := by decide +kernel
theorem dL_goods_17 : decode cL_goods 17 = .ok (.ireturn, 1) := by decide +kernel
theorem dL_goods_18 : decode cL_goods 18 = .ok (.iconst 0, 1) := by decide +kernel
theorem dL_goods_19 : decode cL_goods 19 = .ok (.ireturn, 1) := by decide +kernel
theorem dL_total_0 : decode cL_total 0 = .ok (.aload_n 2, 1) := by decide +kernel
theorem dL_total_1 : decode cL_total 1 = .ok (.iconst 0, 1) := by decide +kernel
theorem dL_total_2 : decode cL_total 2 = .ok (.aload_n 0, 1) := by decide +kernel
theorem dL_total_3 : decode cL_total 3 = .ok (.iload_n 1, 1) := by decide +kernel
theorem dL_total_4 : decode cL_total 4 = .ok (.invokevirtual 52, 3) := by decide +kernel
theorem dL_total_7 : decode cL_total 7 = .ok (.i2l, 1) := by decide +kernel
theorem dL_total_8 : decode cL_total 8 = .ok (.lastore, 1) := by decide +kernel
theorem dL_total_9 : decode cL_total 9 = .ok (.goto 9, 3) := by decide +kernel
theorem dL_total_12 : decode cL_total 12 = .ok (.astore_n 3, 1) := by decide +kernel
theorem dL_total_13 : decode cL_total 13 = .ok (.iconst 1, 1) := by decide +kernel
theorem dL_total_14 : decode cL_total 14 = .ok (.ireturn, 1) := by decide +kernel
theorem dL_total_15 : decode cL_total 15 = .ok (.astore_n 3, 1) := by decide +kernel
theorem dL_total_16 : decode cL_total 16 = .ok (.iconst 2, 1) := by decide +kernel
theorem dL_total_17 : decode cL_total 17 = .ok (.ireturn, 1) := by decide +kernel
theorem dL_total_18 : decode cL_total 18 = .ok (.iconst 0, 1) := by decide +kernel
theorem dL_total_19 : decode cL_total 19 = .ok (.ireturn, 1) := by decide +kernel
theorem dL_rest_0 : decode cL_rest 0 = .ok (.aload_n 3, 1) := by decide +kernel
theorem dL_rest_1 : decode cL_rest 1 = .ok (.iconst 0, 1) := by decide +kernel
theorem dL_rest_2 : decode cL_rest 2 = .ok (.aload_n 0, 1) := by decide +kernel
theorem dL_rest_3 : decode cL_rest 3 = .ok (.iload_n 1, 1) := by decide +kernel
theorem dL_rest_4 : decode cL_rest 4 = .ok (.iload_n 2, 1) := by decide +kernel
theorem dL_rest_5 : decode cL_rest 5 = .ok (.invokevirtual 55, 3) := by decide +kernel
theorem dL_rest_8 : decode cL_rest 8 = .ok (.i2l, 1) := by decide +kernel
theorem dL_rest_9 : decode cL_rest 9 = .ok (.lastore, 1) := by decide +kernel
theorem dL_rest_10 : decode cL_rest 10 = .ok (.goto 15, 3) := by decide +kernel
theorem dL_rest_13 : decode cL_rest 13 = .ok (.astore 4, 2) := by decide +kernel
theorem dL_rest_15 : decode cL_rest 15 = .ok (.iconst 1, 1) := by decide +kernel
theorem dL_rest_16 : decode cL_rest 16 = .ok (.ireturn, 1) := by decide +kernel
theorem dL_rest_17 : decode cL_rest 17 = .ok (.astore 4, 2) := by decide +kernel
theorem dL_rest_19 : decode cL_rest 19 = .ok (.iconst 2, 1) := by decide +kernel
theorem dL_rest_20 : decode cL_rest 20 = .ok (.ireturn, 1) := by decide +kernel
theorem dL_rest_21 : decode cL_rest 21 = .ok (.astore 4, 2) := by decide +kernel
theorem dL_rest_23 : decode cL_rest 23 = .ok (.iconst 3, 1) := by decide +kernel
theorem dL_rest_24 : decode cL_rest 24 = .ok (.ireturn, 1) := by decide +kernel
theorem dL_rest_25 : decode cL_rest 25 = .ok (.iconst 0, 1) := by decide +kernel
theorem dL_rest_26 : decode cL_rest 26 = .ok (.ireturn, 1) := by decide +kernel
theorem dL_worth_0 : decode cL_worth 0 = .ok (.aload_n 2, 1) := by decide +kernel
theorem dL_worth_1 : decode cL_worth 1 = .ok (.iconst 0, 1) := by decide +kernel
theorem dL_worth_2 : decode cL_worth 2 = .ok (.aload_n 0, 1) := by decide +kernel
theorem dL_worth_3 : decode cL_worth 3 = .ok (.iload_n 1, 1) := by decide +kernel
theorem dL_worth_4 : decode cL_worth 4 = .ok (.invokevirtual 58, 3) := by decide +kernel
theorem dL_worth_7 : decode cL_worth 7 = .ok (.i2l, 1) := by decide +kernel
theorem dL_worth_8 : decode cL_worth 8 = .ok (.lastore, 1) := by decide +kernel
theorem dL_worth_9 : decode cL_worth 9 = .ok (.goto 6, 3) := by decide +kernel
theorem dL_worth_12 : decode cL_worth 12 = .ok (.astore_n 3, 1) := by decide +kernel
theorem dL_worth_13 : decode cL_worth 13 = .ok (.iconst 1, 1) := by decide +kernel
theorem dL_worth_14 : decode cL_worth 14 = .ok (.ireturn, 1) := by decide +kernel
theorem dL_worth_15 : decode cL_worth 15 = .ok (.iconst 0, 1) := by decide +kernel
theorem dL_worth_16 : decode cL_worth 16 = .ok (.ireturn, 1) := by decide +kernel
theorem dL_buy_0 : decode cL_buy 0 = .ok (.aload_n 2, 1) := by decide +kernel
theorem dL_buy_1 : decode cL_buy 1 = .ok (.iconst 0, 1) := by decide +kernel
theorem dL_buy_2 : decode cL_buy 2 = .ok (.aload_n 0, 1) := by decide +kernel
theorem dL_buy_3 : decode cL_buy 3 = .ok (.iload_n 1, 1) := by decide +kernel
theorem dL_buy_4 : decode cL_buy 4 = .ok (.invokevirtual 61, 3) := by decide +kernel
theorem dL_buy_7 : decode cL_buy 7 = .ok (.i2l, 1) := by decide +kernel
theorem dL_buy_8 : decode cL_buy 8 = .ok (.lastore, 1) := by decide +kernel
theorem dL_buy_9 : decode cL_buy 9 = .ok (.goto 9, 3) := by decide +kernel
theorem dL_buy_12 : decode cL_buy 12 = .ok (.astore_n 3, 1) := by decide +kernel
theorem dL_buy_13 : decode cL_buy 13 = .ok (.iconst 1, 1) := by decide +kernel
theorem dL_buy_14 : decode cL_buy 14 = .ok (.ireturn, 1) := by decide +kernel
theorem dL_buy_15 : decode cL_buy 15 = .ok (.astore_n 3, 1) := by decide +kernel
theorem dL_buy_16 : decode cL_buy 16 = .ok (.iconst 2, 1) := by decide +kernel
theorem dL_buy_17 : decode cL_buy 17 = .ok (.ireturn, 1) := by decide +kernel
theorem dL_buy_18 : decode cL_buy 18 = .ok (.iconst 0, 1) := by decide +kernel
theorem dL_buy_19 : decode cL_buy 19 = .ok (.ireturn, 1) := by decide +kernel
theorem dL_giveBack_0 : decode cL_giveBack 0 = .ok (.aload 4, 2) := by decide +kernel
theorem dL_giveBack_2 : decode cL_giveBack 2 = .ok (.iconst 0, 1) := by decide +kernel
theorem dL_giveBack_3 : decode cL_giveBack 3 = .ok (.aload_n 0, 1) := by decide +kernel
theorem dL_giveBack_4 : decode cL_giveBack 4 = .ok (.iload_n 1, 1) := by decide +kernel
theorem dL_giveBack_5 : decode cL_giveBack 5 = .ok (.iload_n 2, 1) := by decide +kernel
theorem dL_giveBack_6 : decode cL_giveBack 6 = .ok (.iload_n 3, 1) := by decide +kernel
theorem dL_giveBack_7 : decode cL_giveBack 7 = .ok (.invokevirtual 64, 3) := by decide +kernel
theorem dL_giveBack_10 : decode cL_giveBack 10 = .ok (.i2l, 1) := by decide +kernel
theorem dL_giveBack_11 : decode cL_giveBack 11 = .ok (.lastore, 1) := by decide +kernel
theorem dL_giveBack_12 : decode cL_giveBack 12 = .ok (.goto 11, 3) := by decide +kernel
theorem dL_giveBack_15 : decode cL_giveBack 15 = .ok (.astore 5, 2) := by decide +kernel
theorem dL_giveBack_17 : decode cL_giveBack 17 = .ok (.iconst 1, 1) := by decide +kernel
theorem dL_giveBack_18 : decode cL_giveBack 18 = .ok (.ireturn, 1) := by decide +kernel
theorem dL_giveBack_19 : decode cL_giveBack 19 = .ok (.astore 5, 2) := by decide +kernel
theorem dL_giveBack_21 : decode cL_giveBack 21 = .ok (.iconst 2, 1) := by decide +kernel
theorem dL_giveBack_22 : decode cL_giveBack 22 = .ok (.ireturn, 1) := by decide +kernel
theorem dL_giveBack_23 : decode cL_giveBack 23 = .ok (.iconst 0, 1) := by decide +kernel
theorem dL_giveBack_24 : decode cL_giveBack 24 = .ok (.ireturn, 1) := by decide +kernel
theorem dL_order_0 : decode cL_order 0 = .ok (.aload_n 3, 1) := by decide +kernel
theorem dL_order_1 : decode cL_order 1 = .ok (.iconst 0, 1) := by decide +kernel
theorem dL_order_2 : decode cL_order 2 = .ok (.aload_n 0, 1) := by decide +kernel
theorem dL_order_3 : decode cL_order 3 = .ok (.iload_n 1, 1) := by decide +kernel
theorem dL_order_4 : decode cL_order 4 = .ok (.iload_n 2, 1) := by decide +kernel
theorem dL_order_5 : decode cL_order 5 = .ok (.invokevirtual 68, 3) := by decide +kernel
theorem dL_order_8 : decode cL_order 8 = .ok (.i2l, 1) := by decide +kernel
theorem dL_order_9 : decode cL_order 9 = .ok (.lastore, 1) := by decide +kernel
theorem dL_order_10 : decode cL_order 10 = .ok (.goto 7, 3) := by decide +kernel
theorem dL_order_13 : decode cL_order 13 = .ok (.astore 4, 2) := by decide +kernel
theorem dL_order_15 : decode cL_order 15 = .ok (.iconst 1, 1) := by decide +kernel
theorem dL_order_16 : decode cL_order 16 = .ok (.ireturn, 1) := by decide +kernel
theorem dL_order_17 : decode cL_order 17 = .ok (.iconst 0, 1) := by decide +kernel
theorem dL_order_18 : decode cL_order 18 = .ok (.ireturn, 1) := by decide +kernel
theorem dL_pieces_0 : decode cL_pieces 0 = .ok (.aload_n 3, 1) := by decide +kernel
theorem dL_pieces_1 : decode cL_pieces 1 = .ok (.iconst 0, 1) := by decide +kernel
theorem dL_pieces_2 : decode cL_pieces 2 = .ok (.aload_n 0, 1) := by decide +kernel
theorem dL_pieces_3 : decode cL_pieces 3 = .ok (.iload_n 1, 1) := by decide +kernel
theorem dL_pieces_4 : decode cL_pieces 4 = .ok (.iload_n 2, 1) := by decide +kernel
theorem dL_pieces_5 : decode cL_pieces 5 = .ok (.invokevirtual 71, 3) := by decide +kernel
theorem dL_pieces_8 : decode cL_pieces 8 = .ok (.i2l, 1) := by decide +kernel
theorem dL_pieces_9 : decode cL_pieces 9 = .ok (.lastore, 1) := by decide +kernel
theorem dL_pieces_10 : decode cL_pieces 10 = .ok (.goto 7, 3) := by decide +kernel
theorem dL_pieces_13 : decode cL_pieces 13 = .ok (.astore 4, 2) := by decide +kernel
theorem dL_pieces_15 : decode cL_pieces 15 = .ok (.iconst 1, 1) := by decide +kernel
theorem dL_pieces_16 : decode cL_pieces 16 = .ok (.ireturn, 1) := by decide +kernel
theorem dL_pieces_17 : decode cL_pieces 17 = .ok (.iconst 0, 1) := by decide +kernel
theorem dL_pieces_18 : decode cL_pieces 18 = .ok (.ireturn, 1) := by decide +kernel
theorem dL_law_0 : decode cL_law 0 = .ok (.new 8, 3) := by decide +kernel
theorem dL_law_3 : decode cL_law 3 = .ok (.dup, 1) := by decide +kernel
theorem dL_law_4 : decode cL_law 4 = .ok (.invokespecial 74, 3) := by decide +kernel
theorem dL_law_7 : decode cL_law 7 = .ok (.astore_n 1, 1) := by decide +kernel
theorem dL_law_8 : decode cL_law 8 = .ok (.new 75, 3) := by decide +kernel
theorem dL_law_11 : decode cL_law 11 = .ok (.dup, 1) := by decide +kernel
theorem dL_law_12 : decode cL_law 12 = .ok (.invokespecial 77, 3) := by decide +kernel
theorem dL_law_15 : decode cL_law 15 = .ok (.astore_n 2, 1) := by decide +kernel
theorem dL_law_16 : decode cL_law 16 = .ok (.iconst 1, 1) := by decide +kernel
theorem dL_law_17 : decode cL_law 17 = .ok (.newarray .long, 2) := by decide +kernel
theorem dL_law_19 : decode cL_law 19 = .ok (.astore_n 3, 1) := by decide +kernel
theorem dL_law_20 : decode cL_law 20 = .ok (.iconst 0, 1) := by decide +kernel
theorem dL_law_21 : decode cL_law 21 = .ok (.istore 4, 2) := by decide +kernel
theorem dL_law_23 : decode cL_law 23 = .ok (.iload 4, 2) := by decide +kernel
theorem dL_law_25 : decode cL_law 25 = .ok (.aload_n 0, 1) := by decide +kernel
theorem dL_law_26 : decode cL_law 26 = .ok (.arraylength, 1) := by decide +kernel
theorem dL_law_27 : decode cL_law 27 = .ok (.bipush 6, 2) := by decide +kernel
theorem dL_law_29 : decode cL_law 29 = .ok (.isub, 1) := by decide +kernel
theorem dL_law_30 : decode cL_law 30 = .ok (.if_icmp .gt 1408, 3) := by decide +kernel
theorem dL_law_33 : decode cL_law 33 = .ok (.aload_n 0, 1) := by decide +kernel
theorem dL_law_34 : decode cL_law 34 = .ok (.iload 4, 2) := by decide +kernel
theorem dL_law_36 : decode cL_law 36 = .ok (.iaload, 1) := by decide +kernel
theorem dL_law_37 : decode cL_law 37 = .ok (.bipush 31, 2) := by decide +kernel
theorem dL_law_39 : decode cL_law 39 = .ok (.iand, 1) := by decide +kernel
theorem dL_law_40 : decode cL_law 40 = .ok (.tableswitch 1392 0 22 #[108, 176, 244, 312, 325, 393, 497, 565, 621, 684, 740, 803, 859, 915, 983, 996, 1052, 1108, 1188, 1201, 1269, 1337, 1378], 108) := by decide +kernel
theorem dL_law_148 : decode cL_law 148 = .ok (.aload_n 1, 1) := by decide +kernel
theorem dL_law_149 : decode cL_law 149 = .ok (.aload_n 0, 1) := by decide +kernel
theorem dL_law_150 : decode cL_law 150 = .ok (.iload 4, 2) := by decide +kernel
theorem dL_law_152 : decode cL_law 152 = .ok (.iconst 1, 1) := by decide +kernel
theorem dL_law_153 : decode cL_law 153 = .ok (.iadd, 1) := by decide +kernel
theorem dL_law_154 : decode cL_law 154 = .ok (.iaload, 1) := by decide +kernel
theorem dL_law_155 : decode cL_law 155 = .ok (.aload_n 0, 1) := by decide +kernel
theorem dL_law_156 : decode cL_law 156 = .ok (.iload 4, 2) := by decide +kernel
theorem dL_law_158 : decode cL_law 158 = .ok (.iconst 2, 1) := by decide +kernel
theorem dL_law_159 : decode cL_law 159 = .ok (.iadd, 1) := by decide +kernel
theorem dL_law_160 : decode cL_law 160 = .ok (.iaload, 1) := by decide +kernel
theorem dL_law_161 : decode cL_law 161 = .ok (.aload_n 3, 1) := by decide +kernel
theorem dL_law_162 : decode cL_law 162 = .ok (.invokestatic 78, 3) := by decide +kernel
theorem dL_law_165 : decode cL_law 165 = .ok (.istore 5, 2) := by decide +kernel
theorem dL_law_167 : decode cL_law 167 = .ok (.aload_n 2, 1) := by decide +kernel
theorem dL_law_168 : decode cL_law 168 = .ok (.aload_n 0, 1) := by decide +kernel
theorem dL_law_169 : decode cL_law 169 = .ok (.iload 4, 2) := by decide +kernel
theorem dL_law_171 : decode cL_law 171 = .ok (.iconst 1, 1) := by decide +kernel
theorem dL_law_172 : decode cL_law 172 = .ok (.iadd, 1) := by decide +kernel
theorem dL_law_173 : decode cL_law 173 = .ok (.iaload, 1) := by decide +kernel
theorem dL_law_174 : decode cL_law 174 = .ok (.aload_n 0, 1) := by decide +kernel
theorem dL_law_175 : decode cL_law 175 = .ok (.iload 4, 2) := by decide +kernel
theorem dL_law_177 : decode cL_law 177 = .ok (.iconst 2, 1) := by decide +kernel
theorem dL_law_178 : decode cL_law 178 = .ok (.iadd, 1) := by decide +kernel
theorem dL_law_179 : decode cL_law 179 = .ok (.iaload, 1) := by decide +kernel
theorem dL_law_180 : decode cL_law 180 = .ok (.invokevirtual 83, 3) := by decide +kernel
theorem dL_law_183 : decode cL_law 183 = .ok (.istore 6, 2) := by decide +kernel
theorem dL_law_185 : decode cL_law 185 = .ok (.aload_n 2, 1) := by decide +kernel
theorem dL_law_186 : decode cL_law 186 = .ok (.invokevirtual 84, 3) := by decide +kernel
theorem dL_law_189 : decode cL_law 189 = .ok (.iload 5, 2) := by decide +kernel
theorem dL_law_191 : decode cL_law 191 = .ok (.if_icmp .eq 5, 3) := by decide +kernel
theorem dL_law_194 : decode cL_law 194 = .ok (.iconst 0, 1) := by decide +kernel
theorem dL_law_195 : decode cL_law 195 = .ok (.ireturn, 1) := by decide +kernel
theorem dL_law_196 : decode cL_law 196 = .ok (.iload 5, 2) := by decide +kernel
theorem dL_law_198 : decode cL_law 198 = .ok (.ifCond .ne 15, 3) := by decide +kernel
theorem dL_law_201 : decode cL_law 201 = .ok (.aload_n 3, 1) := by decide +kernel
theorem dL_law_202 : decode cL_law 202 = .ok (.iconst 0, 1) := by decide +kernel
theorem dL_law_203 : decode cL_law 203 = .ok (.laload, 1) := by decide +kernel
theorem dL_law_204 : decode cL_law 204 = .ok (.iload 6, 2) := by decide +kernel
theorem dL_law_206 : decode cL_law 206 = .ok (.i2l, 1) := by decide +kernel
theorem dL_law_207 : decode cL_law 207 = .ok (.lcmp, 1) := by decide +kernel
theorem dL_law_208 : decode cL_law 208 = .ok (.ifCond .eq 5, 3) := by decide +kernel
theorem dL_law_211 : decode cL_law 211 = .ok (.iconst 0, 1) := by decide +kernel
theorem dL_law_212 : decode cL_law 212 = .ok (.ireturn, 1) := by decide +kernel
theorem dL_law_213 : decode cL_law 213 = .ok (.goto 1219, 3) := by decide +kernel
theorem dL_law_216 : decode cL_law 216 = .ok (.aload_n 1, 1) := by decide +kernel
theorem dL_law_217 : decode cL_law 217 = .ok (.aload_n 0, 1) := by decide +kernel
theorem dL_law_218 : decode cL_law 218 = .ok (.iload 4, 2) := by decide +kernel
theorem dL_law_220 : decode cL_law 220 = .ok (.iconst 1, 1) := by decide +kernel
theorem dL_law_221 : decode cL_law 221 = .ok (.iadd, 1) := by decide +kernel
theorem dL_law_222 : decode cL_law 222 = .ok (.iaload, 1) := by decide +kernel
theorem dL_law_223 : decode cL_law 223 = .ok (.aload_n 0, 1) := by decide +kernel
theorem dL_law_224 : decode cL_law 224 = .ok (.iload 4, 2) := by decide +kernel
theorem dL_law_226 : decode cL_law 226 = .ok (.iconst 2, 1) := by decide +kernel
theorem dL_law_227 : decode cL_law 227 = .ok (.iadd, 1) := by decide +kernel
theorem dL_law_228 : decode cL_law 228 = .ok (.iaload, 1) := by decide +kernel
theorem dL_law_229 : decode cL_law 229 = .ok (.aload_n 3, 1) := by decide +kernel
theorem dL_law_230 : decode cL_law 230 = .ok (.invokestatic 88, 3) := by decide +kernel
theorem dL_law_233 : decode cL_law 233 = .ok (.istore 5, 2) := by decide +kernel
theorem dL_law_235 : decode cL_law 235 = .ok (.aload_n 2, 1) := by decide +kernel
theorem dL_law_236 : decode cL_law 236 = .ok (.aload_n 0, 1) := by decide +kernel
theorem dL_law_237 : decode cL_law 237 = .ok (.iload 4, 2) := by decide +kernel
theorem dL_law_239 : decode cL_law 239 = .ok (.iconst 1, 1) := by decide +kernel
theorem dL_law_240 : decode cL_law 240 = .ok (.iadd, 1) := by decide +kernel
theorem dL_law_241 : decode cL_law 241 = .ok (.iaload, 1) := by decide +kernel
theorem dL_law_242 : decode cL_law 242 = .ok (.aload_n 0, 1) := by decide +kernel
theorem dL_law_243 : decode cL_law 243 = .ok (.iload 4, 2) := by decide +kernel
theorem dL_law_245 : decode cL_law 245 = .ok (.iconst 2, 1) := by decide +kernel
theorem dL_law_246 : decode cL_law 246 = .ok (.iadd, 1) := by decide +kernel
theorem dL_law_247 : decode cL_law 247 = .ok (.iaload, 1) := by decide +kernel
theorem dL_law_248 : decode cL_law 248 = .ok (.invokevirtual 90, 3) := by decide +kernel
theorem dL_law_251 : decode cL_law 251 = .ok (.istore 6, 2) := by decide +kernel
theorem dL_law_253 : decode cL_law 253 = .ok (.aload_n 2, 1) := by decide +kernel
theorem dL_law_254 : decode cL_law 254 = .ok (.invokevirtual 84, 3) := by decide +kernel
theorem dL_law_257 : decode cL_law 257 = .ok (.iload 5, 2) := by decide +kernel
theorem dL_law_259 : decode cL_law 259 = .ok (.if_icmp .eq 5, 3) := by decide +kernel
theorem dL_law_262 : decode cL_law 262 = .ok (.iconst 0, 1) := by decide +kernel
theorem dL_law_263 : decode cL_law 263 = .ok (.ireturn, 1) := by decide +kernel
theorem dL_law_264 : decode cL_law 264 = .ok (.iload 5, 2) := by decide +kernel
theorem dL_law_266 : decode cL_law 266 = .ok (.ifCond .ne 15, 3) := by decide +kernel
theorem dL_law_269 : decode cL_law 269 = .ok (.aload_n 3, 1) := by decide +kernel
theorem dL_law_270 : decode cL_law 270 = .ok (.iconst 0, 1) := by decide +kernel
theorem dL_law_271 : decode cL_law 271 = .ok (.laload, 1) := by decide +kernel
theorem dL_law_272 : decode cL_law 272 = .ok (.iload 6, 2) := by decide +kernel
theorem dL_law_274 : decode cL_law 274 = .ok (.i2l, 1) := by decide +kernel
theorem dL_law_275 : decode cL_law 275 = .ok (.lcmp, 1) := by decide +kernel
theorem dL_law_276 : decode cL_law 276 = .ok (.ifCond .eq 5, 3) := by decide +kernel
theorem dL_law_279 : decode cL_law 279 = .ok (.iconst 0, 1) := by decide +kernel
theorem dL_law_280 : decode cL_law 280 = .ok (.ireturn, 1) := by decide +kernel
theorem dL_law_281 : decode cL_law 281 = .ok (.goto 1151, 3) := by decide +kernel
theorem dL_law_284 : decode cL_law 284 = .ok (.aload_n 1, 1) := by decide +kernel
theorem dL_law_285 : decode cL_law 285 = .ok (.aload_n 0, 1) := by decide +kernel
theorem dL_law_286 : decode cL_law 286 = .ok (.iload 4, 2) := by decide +kernel
theorem dL_law_288 : decode cL_law 288 = .ok (.iconst 1, 1) := by decide +kernel
theorem dL_law_289 : decode cL_law 289 = .ok (.iadd, 1) := by decide +kernel
theorem dL_law_290 : decode cL_law 290 = .ok (.iaload, 1) := by decide +kernel
theorem dL_law_291 : decode cL_law 291 = .ok (.aload_n 0, 1) := by decide +kernel
theorem dL_law_292 : decode cL_law 292 = .ok (.iload 4, 2) := by decide +kernel
theorem dL_law_294 : decode cL_law 294 = .ok (.iconst 2, 1) := by decide +kernel
theorem dL_law_295 : decode cL_law 295 = .ok (.iadd, 1) := by decide +kernel
theorem dL_law_296 : decode cL_law 296 = .ok (.iaload, 1) := by decide +kernel
theorem dL_law_297 : decode cL_law 297 = .ok (.aload_n 3, 1) := by decide +kernel
theorem dL_law_298 : decode cL_law 298 = .ok (.invokestatic 91, 3) := by decide +kernel
theorem dL_law_301 : decode cL_law 301 = .ok (.istore 5, 2) := by decide +kernel
theorem dL_law_303 : decode cL_law 303 = .ok (.aload_n 2, 1) := by decide +kernel
theorem dL_law_304 : decode cL_law 304 = .ok (.aload_n 0, 1) := by decide +kernel
theorem dL_law_305 : decode cL_law 305 = .ok (.iload 4, 2) := by decide +kernel
theorem dL_law_307 : decode cL_law 307 = .ok (.iconst 1, 1) := by decide +kernel
theorem dL_law_308 : decode cL_law 308 = .ok (.iadd, 1) := by decide +kernel
theorem dL_law_309 : decode cL_law 309 = .ok (.iaload, 1) := by decide +kernel
theorem dL_law_310 : decode cL_law 310 = .ok (.aload_n 0, 1) := by decide +kernel
theorem dL_law_311 : decode cL_law 311 = .ok (.iload 4, 2) := by decide +kernel
theorem dL_law_313 : decode cL_law 313 = .ok (.iconst 2, 1) := by decide +kernel
theorem dL_law_314 : decode cL_law 314 = .ok (.iadd, 1) := by decide +kernel
theorem dL_law_315 : decode cL_law 315 = .ok (.iaload, 1) := by decide +kernel
theorem dL_law_316 : decode cL_law 316 = .ok (.invokevirtual 93, 3) := by decide +kernel
theorem dL_law_319 : decode cL_law 319 = .ok (.istore 6, 2) := by decide +kernel
theorem dL_law_321 : decode cL_law 321 = .ok (.aload_n 2, 1) := by decide +kernel
theorem dL_law_322 : decode cL_law 322 = .ok (.invokevirtual 84, 3) := by decide +kernel
theorem dL_law_325 : decode cL_law 325 = .ok (.iload 5, 2) := by decide +kernel
theorem dL_law_327 : decode cL_law 327 = .ok (.if_icmp .eq 5, 3) := by decide +kernel
theorem dL_law_330 : decode cL_law 330 = .ok (.iconst 0, 1) := by decide +kernel
theorem dL_law_331 : decode cL_law 331 = .ok (.ireturn, 1) := by decide +kernel
theorem dL_law_332 : decode cL_law 332 = .ok (.iload 5, 2) := by decide +kernel
theorem dL_law_334 : decode cL_law 334 = .ok (.ifCond .ne 15, 3) := by decide +kernel
theorem dL_law_337 : decode cL_law 337 = .ok (.aload_n 3, 1) := by decide +kernel
theorem dL_law_338 : decode cL_law 338 = .ok (.iconst 0, 1) := by decide +kernel
theorem dL_law_339 : decode cL_law 339 = .ok (.laload, 1) := by decide +kernel
theorem dL_law_340 : decode cL_law 340 = .ok (.iload 6, 2) := by decide +kernel
theorem dL_law_342 : decode cL_law 342 = .ok (.i2l, 1) := by decide +kernel
theorem dL_law_343 : decode cL_law 343 = .ok (.lcmp, 1) := by decide +kernel
theorem dL_law_344 : decode cL_law 344 = .ok (.ifCond .eq 5, 3) := by decide +kernel
theorem dL_law_347 : decode cL_law 347 = .ok (.iconst 0, 1) := by decide +kernel
theorem dL_law_348 : decode cL_law 348 = .ok (.ireturn, 1) := by decide +kernel
theorem dL_law_349 : decode cL_law 349 = .ok (.goto 1083, 3) := by decide +kernel
theorem dL_law_352 : decode cL_law 352 = .ok (.aload_n 1, 1) := by decide +kernel
theorem dL_law_353 : decode cL_law 353 = .ok (.invokevirtual 94, 3) := by decide +kernel
theorem dL_law_356 : decode cL_law 356 = .ok (.aload_n 2, 1) := by decide +kernel
theorem dL_law_357 : decode cL_law 357 = .ok (.invokevirtual 97, 3) := by decide +kernel
theorem dL_law_360 : decode cL_law 360 = .ok (.if_icmp .eq 1072, 3) := by decide +kernel
theorem dL_law_363 : decode cL_law 363 = .ok (.iconst 0, 1) := by decide +kernel
theorem dL_law_364 : decode cL_law 364 = .ok (.ireturn, 1) := by decide +kernel
theorem dL_law_365 : decode cL_law 365 = .ok (.aload_n 1, 1) := by decide +kernel
theorem dL_law_366 : decode cL_law 366 = .ok (.aload_n 0, 1) := by decide +kernel
theorem dL_law_367 : decode cL_law 367 = .ok (.iload 4, 2) := by decide +kernel
theorem dL_law_369 : decode cL_law 369 = .ok (.iconst 1, 1) := by decide +kernel
theorem dL_law_370 : decode cL_law 370 = .ok (.iadd, 1) := by decide +kernel
theorem dL_law_371 : decode cL_law 371 = .ok (.iaload, 1) := by decide +kernel
theorem dL_law_372 : decode cL_law 372 = .ok (.aload_n 0, 1) := by decide +kernel
theorem dL_law_373 : decode cL_law 373 = .ok (.iload 4, 2) := by decide +kernel
theorem dL_law_375 : decode cL_law 375 = .ok (.iconst 2, 1) := by decide +kernel
theorem dL_law_376 : decode cL_law 376 = .ok (.iadd, 1) := by decide +kernel
theorem dL_law_377 : decode cL_law 377 = .ok (.iaload, 1) := by decide +kernel
theorem dL_law_378 : decode cL_law 378 = .ok (.aload_n 3, 1) := by decide +kernel
theorem dL_law_379 : decode cL_law 379 = .ok (.invokestatic 98, 3) := by decide +kernel
theorem dL_law_382 : decode cL_law 382 = .ok (.istore 5, 2) := by decide +kernel
theorem dL_law_384 : decode cL_law 384 = .ok (.aload_n 2, 1) := by decide +kernel
theorem dL_law_385 : decode cL_law 385 = .ok (.aload_n 0, 1) := by decide +kernel
theorem dL_law_386 : decode cL_law 386 = .ok (.iload 4, 2) := by decide +kernel
theorem dL_law_388 : decode cL_law 388 = .ok (.iconst 1, 1) := by decide +kernel
theorem dL_law_389 : decode cL_law 389 = .ok (.iadd, 1) := by decide +kernel
theorem dL_law_390 : decode cL_law 390 = .ok (.iaload, 1) := by decide +kernel
theorem dL_law_391 : decode cL_law 391 = .ok (.aload_n 0, 1) := by decide +kernel
theorem dL_law_392 : decode cL_law 392 = .ok (.iload 4, 2) := by decide +kernel
theorem dL_law_394 : decode cL_law 394 = .ok (.iconst 2, 1) := by decide +kernel
theorem dL_law_395 : decode cL_law 395 = .ok (.iadd, 1) := by decide +kernel
theorem dL_law_396 : decode cL_law 396 = .ok (.iaload, 1) := by decide +kernel
theorem dL_law_397 : decode cL_law 397 = .ok (.invokevirtual 100, 3) := by decide +kernel
theorem dL_law_400 : decode cL_law 400 = .ok (.istore 6, 2) := by decide +kernel
theorem dL_law_402 : decode cL_law 402 = .ok (.aload_n 2, 1) := by decide +kernel
theorem dL_law_403 : decode cL_law 403 = .ok (.invokevirtual 84, 3) := by decide +kernel
theorem dL_law_406 : decode cL_law 406 = .ok (.iload 5, 2) := by decide +kernel
theorem dL_law_408 : decode cL_law 408 = .ok (.if_icmp .eq 5, 3) := by decide +kernel
theorem dL_law_411 : decode cL_law 411 = .ok (.iconst 0, 1) := by decide +kernel
theorem dL_law_412 : decode cL_law 412 = .ok (.ireturn, 1) := by decide +kernel
theorem dL_law_413 : decode cL_law 413 = .ok (.iload 5, 2) := by decide +kernel
theorem dL_law_415 : decode cL_law 415 = .ok (.ifCond .ne 15, 3) := by decide +kernel
theorem dL_law_418 : decode cL_law 418 = .ok (.aload_n 3, 1) := by decide +kernel
theorem dL_law_419 : decode cL_law 419 = .ok (.iconst 0, 1) := by decide +kernel
theorem dL_law_420 : decode cL_law 420 = .ok (.laload, 1) := by decide +kernel
theorem dL_law_421 : decode cL_law 421 = .ok (.iload 6, 2) := by decide +kernel
theorem dL_law_423 : decode cL_law 423 = .ok (.i2l, 1) := by decide +kernel
theorem dL_law_424 : decode cL_law 424 = .ok (.lcmp, 1) := by decide +kernel
theorem dL_law_425 : decode cL_law 425 = .ok (.ifCond .eq 5, 3) := by decide +kernel
theorem dL_law_428 : decode cL_law 428 = .ok (.iconst 0, 1) := by decide +kernel
theorem dL_law_429 : decode cL_law 429 = .ok (.ireturn, 1) := by decide +kernel
theorem dL_law_430 : decode cL_law 430 = .ok (.goto 1002, 3) := by decide +kernel
theorem dL_law_433 : decode cL_law 433 = .ok (.aload_n 1, 1) := by decide +kernel
theorem dL_law_434 : decode cL_law 434 = .ok (.aload_n 0, 1) := by decide +kernel
theorem dL_law_435 : decode cL_law 435 = .ok (.iload 4, 2) := by decide +kernel
theorem dL_law_437 : decode cL_law 437 = .ok (.iconst 1, 1) := by decide +kernel
theorem dL_law_438 : decode cL_law 438 = .ok (.iadd, 1) := by decide +kernel
theorem dL_law_439 : decode cL_law 439 = .ok (.iaload, 1) := by decide +kernel
theorem dL_law_440 : decode cL_law 440 = .ok (.aload_n 0, 1) := by decide +kernel
theorem dL_law_441 : decode cL_law 441 = .ok (.iload 4, 2) := by decide +kernel
theorem dL_law_443 : decode cL_law 443 = .ok (.iconst 2, 1) := by decide +kernel
theorem dL_law_444 : decode cL_law 444 = .ok (.iadd, 1) := by decide +kernel
theorem dL_law_445 : decode cL_law 445 = .ok (.iaload, 1) := by decide +kernel
theorem dL_law_446 : decode cL_law 446 = .ok (.aload_n 0, 1) := by decide +kernel
theorem dL_law_447 : decode cL_law 447 = .ok (.iload 4, 2) := by decide +kernel
theorem dL_law_449 : decode cL_law 449 = .ok (.iconst 3, 1) := by decide +kernel
theorem dL_law_450 : decode cL_law 450 = .ok (.iadd, 1) := by decide +kernel
theorem dL_law_451 : decode cL_law 451 = .ok (.iaload, 1) := by decide +kernel
theorem dL_law_452 : decode cL_law 452 = .ok (.aload_n 0, 1) := by decide +kernel
theorem dL_law_453 : decode cL_law 453 = .ok (.iload 4, 2) := by decide +kernel
theorem dL_law_455 : decode cL_law 455 = .ok (.iconst 4, 1) := by decide +kernel
theorem dL_law_456 : decode cL_law 456 = .ok (.iadd, 1) := by decide +kernel
theorem dL_law_457 : decode cL_law 457 = .ok (.iaload, 1) := by decide +kernel
theorem dL_law_458 : decode cL_law 458 = .ok (.aload_n 0, 1) := by decide +kernel
theorem dL_law_459 : decode cL_law 459 = .ok (.iload 4, 2) := by decide +kernel
theorem dL_law_461 : decode cL_law 461 = .ok (.iconst 5, 1) := by decide +kernel
theorem dL_law_462 : decode cL_law 462 = .ok (.iadd, 1) := by decide +kernel
theorem dL_law_463 : decode cL_law 463 = .ok (.iaload, 1) := by decide +kernel
theorem dL_law_464 : decode cL_law 464 = .ok (.aload_n 3, 1) := by decide +kernel
theorem dL_law_465 : decode cL_law 465 = .ok (.invokestatic 101, 3) := by decide +kernel
theorem dL_law_468 : decode cL_law 468 = .ok (.istore 5, 2) := by decide +kernel
theorem dL_law_470 : decode cL_law 470 = .ok (.aload_n 2, 1) := by decide +kernel
theorem dL_law_471 : decode cL_law 471 = .ok (.aload_n 0, 1) := by decide +kernel
theorem dL_law_472 : decode cL_law 472 = .ok (.iload 4, 2) := by decide +kernel
theorem dL_law_474 : decode cL_law 474 = .ok (.iconst 1, 1) := by decide +kernel
theorem dL_law_475 : decode cL_law 475 = .ok (.iadd, 1) := by decide +kernel
theorem dL_law_476 : decode cL_law 476 = .ok (.iaload, 1) := by decide +kernel
theorem dL_law_477 : decode cL_law 477 = .ok (.aload_n 0, 1) := by decide +kernel
theorem dL_law_478 : decode cL_law 478 = .ok (.iload 4, 2) := by decide +kernel
theorem dL_law_480 : decode cL_law 480 = .ok (.iconst 2, 1) := by decide +kernel
theorem dL_law_481 : decode cL_law 481 = .ok (.iadd, 1) := by decide +kernel
theorem dL_law_482 : decode cL_law 482 = .ok (.iaload, 1) := by decide +kernel
theorem dL_law_483 : decode cL_law 483 = .ok (.aload_n 0, 1) := by decide +kernel
theorem dL_law_484 : decode cL_law 484 = .ok (.iload 4, 2) := by decide +kernel
theorem dL_law_486 : decode cL_law 486 = .ok (.iconst 3, 1) := by decide +kernel
theorem dL_law_487 : decode cL_law 487 = .ok (.iadd, 1) := by decide +kernel
theorem dL_law_488 : decode cL_law 488 = .ok (.iaload, 1) := by decide +kernel
theorem dL_law_489 : decode cL_law 489 = .ok (.aload_n 0, 1) := by decide +kernel
theorem dL_law_490 : decode cL_law 490 = .ok (.iload 4, 2) := by decide +kernel
theorem dL_law_492 : decode cL_law 492 = .ok (.iconst 4, 1) := by decide +kernel
theorem dL_law_493 : decode cL_law 493 = .ok (.iadd, 1) := by decide +kernel
theorem dL_law_494 : decode cL_law 494 = .ok (.iaload, 1) := by decide +kernel
theorem dL_law_495 : decode cL_law 495 = .ok (.aload_n 0, 1) := by decide +kernel
theorem dL_law_496 : decode cL_law 496 = .ok (.iload 4, 2) := by decide +kernel
theorem dL_law_498 : decode cL_law 498 = .ok (.iconst 5, 1) := by decide +kernel
theorem dL_law_499 : decode cL_law 499 = .ok (.iadd, 1) := by decide +kernel
theorem dL_law_500 : decode cL_law 500 = .ok (.iaload, 1) := by decide +kernel
theorem dL_law_501 : decode cL_law 501 = .ok (.invokevirtual 104, 3) := by decide +kernel
theorem dL_law_504 : decode cL_law 504 = .ok (.istore 6, 2) := by decide +kernel
theorem dL_law_506 : decode cL_law 506 = .ok (.aload_n 2, 1) := by decide +kernel
theorem dL_law_507 : decode cL_law 507 = .ok (.invokevirtual 84, 3) := by decide +kernel
theorem dL_law_510 : decode cL_law 510 = .ok (.iload 5, 2) := by decide +kernel
theorem dL_law_512 : decode cL_law 512 = .ok (.if_icmp .eq 5, 3) := by decide +kernel
theorem dL_law_515 : decode cL_law 515 = .ok (.iconst 0, 1) := by decide +kernel
theorem dL_law_516 : decode cL_law 516 = .ok (.ireturn, 1) := by decide +kernel
theorem dL_law_517 : decode cL_law 517 = .ok (.iload 5, 2) := by decide +kernel
theorem dL_law_519 : decode cL_law 519 = .ok (.ifCond .ne 15, 3) := by decide +kernel
theorem dL_law_522 : decode cL_law 522 = .ok (.aload_n 3, 1) := by decide +kernel
theorem dL_law_523 : decode cL_law 523 = .ok (.iconst 0, 1) := by decide +kernel
theorem dL_law_524 : decode cL_law 524 = .ok (.laload, 1) := by decide +kernel
theorem dL_law_525 : decode cL_law 525 = .ok (.iload 6, 2) := by decide +kernel
theorem dL_law_527 : decode cL_law 527 = .ok (.i2l, 1) := by decide +kernel
theorem dL_law_528 : decode cL_law 528 = .ok (.lcmp, 1) := by decide +kernel
theorem dL_law_529 : decode cL_law 529 = .ok (.ifCond .eq 5, 3) := by decide +kernel
theorem dL_law_532 : decode cL_law 532 = .ok (.iconst 0, 1) := by decide +kernel
theorem dL_law_533 : decode cL_law 533 = .ok (.ireturn, 1) := by decide +kernel
theorem dL_law_534 : decode cL_law 534 = .ok (.goto 898, 3) := by decide +kernel
theorem dL_law_537 : decode cL_law 537 = .ok (.aload_n 1, 1) := by decide +kernel
theorem dL_law_538 : decode cL_law 538 = .ok (.aload_n 0, 1) := by decide +kernel
theorem dL_law_539 : decode cL_law 539 = .ok (.iload 4, 2) := by decide +kernel
theorem dL_law_541 : decode cL_law 541 = .ok (.iconst 1, 1) := by decide +kernel
theorem dL_law_542 : decode cL_law 542 = .ok (.iadd, 1) := by decide +kernel
theorem dL_law_543 : decode cL_law 543 = .ok (.iaload, 1) := by decide +kernel
theorem dL_law_544 : decode cL_law 544 = .ok (.aload_n 0, 1) := by decide +kernel
theorem dL_law_545 : decode cL_law 545 = .ok (.iload 4, 2) := by decide +kernel
theorem dL_law_547 : decode cL_law 547 = .ok (.iconst 2, 1) := by decide +kernel
theorem dL_law_548 : decode cL_law 548 = .ok (.iadd, 1) := by decide +kernel
theorem dL_law_549 : decode cL_law 549 = .ok (.iaload, 1) := by decide +kernel
theorem dL_law_550 : decode cL_law 550 = .ok (.aload_n 3, 1) := by decide +kernel
theorem dL_law_551 : decode cL_law 551 = .ok (.invokestatic 105, 3) := by decide +kernel
theorem dL_law_554 : decode cL_law 554 = .ok (.istore 5, 2) := by decide +kernel
theorem dL_law_556 : decode cL_law 556 = .ok (.aload_n 2, 1) := by decide +kernel
theorem dL_law_557 : decode cL_law 557 = .ok (.aload_n 0, 1) := by decide +kernel
theorem dL_law_558 : decode cL_law 558 = .ok (.iload 4, 2) := by decide +kernel
theorem dL_law_560 : decode cL_law 560 = .ok (.iconst 1, 1) := by decide +kernel
theorem dL_law_561 : decode cL_law 561 = .ok (.iadd, 1) := by decide +kernel
theorem dL_law_562 : decode cL_law 562 = .ok (.iaload, 1) := by decide +kernel
theorem dL_law_563 : decode cL_law 563 = .ok (.aload_n 0, 1) := by decide +kernel
theorem dL_law_564 : decode cL_law 564 = .ok (.iload 4, 2) := by decide +kernel
theorem dL_law_566 : decode cL_law 566 = .ok (.iconst 2, 1) := by decide +kernel
theorem dL_law_567 : decode cL_law 567 = .ok (.iadd, 1) := by decide +kernel
theorem dL_law_568 : decode cL_law 568 = .ok (.iaload, 1) := by decide +kernel
theorem dL_law_569 : decode cL_law 569 = .ok (.invokevirtual 107, 3) := by decide +kernel
theorem dL_law_572 : decode cL_law 572 = .ok (.istore 6, 2) := by decide +kernel
theorem dL_law_574 : decode cL_law 574 = .ok (.aload_n 2, 1) := by decide +kernel
theorem dL_law_575 : decode cL_law 575 = .ok (.invokevirtual 84, 3) := by decide +kernel
theorem dL_law_578 : decode cL_law 578 = .ok (.iload 5, 2) := by decide +kernel
theorem dL_law_580 : decode cL_law 580 = .ok (.if_icmp .eq 5, 3) := by decide +kernel
theorem dL_law_583 : decode cL_law 583 = .ok (.iconst 0, 1) := by decide +kernel
theorem dL_law_584 : decode cL_law 584 = .ok (.ireturn, 1) := by decide +kernel
theorem dL_law_585 : decode cL_law 585 = .ok (.iload 5, 2) := by decide +kernel
theorem dL_law_587 : decode cL_law 587 = .ok (.ifCond .ne 15, 3) := by decide +kernel
theorem dL_law_590 : decode cL_law 590 = .ok (.aload_n 3, 1) := by decide +kernel
theorem dL_law_591 : decode cL_law 591 = .ok (.iconst 0, 1) := by decide +kernel
theorem dL_law_592 : decode cL_law 592 = .ok (.laload, 1) := by decide +kernel
theorem dL_law_593 : decode cL_law 593 = .ok (.iload 6, 2) := by decide +kernel
theorem dL_law_595 : decode cL_law 595 = .ok (.i2l, 1) := by decide +kernel
theorem dL_law_596 : decode cL_law 596 = .ok (.lcmp, 1) := by decide +kernel
theorem dL_law_597 : decode cL_law 597 = .ok (.ifCond .eq 5, 3) := by decide +kernel
theorem dL_law_600 : decode cL_law 600 = .ok (.iconst 0, 1) := by decide +kernel
theorem dL_law_601 : decode cL_law 601 = .ok (.ireturn, 1) := by decide +kernel
theorem dL_law_602 : decode cL_law 602 = .ok (.goto 830, 3) := by decide +kernel
theorem dL_law_605 : decode cL_law 605 = .ok (.aload_n 1, 1) := by decide +kernel
theorem dL_law_606 : decode cL_law 606 = .ok (.aload_n 0, 1) := by decide +kernel
theorem dL_law_607 : decode cL_law 607 = .ok (.iload 4, 2) := by decide +kernel
theorem dL_law_609 : decode cL_law 609 = .ok (.iconst 1, 1) := by decide +kernel
theorem dL_law_610 : decode cL_law 610 = .ok (.iadd, 1) := by decide +kernel
theorem dL_law_611 : decode cL_law 611 = .ok (.iaload, 1) := by decide +kernel
theorem dL_law_612 : decode cL_law 612 = .ok (.aload_n 3, 1) := by decide +kernel
theorem dL_law_613 : decode cL_law 613 = .ok (.invokestatic 108, 3) := by decide +kernel
theorem dL_law_616 : decode cL_law 616 = .ok (.istore 5, 2) := by decide +kernel
theorem dL_law_618 : decode cL_law 618 = .ok (.aload_n 2, 1) := by decide +kernel
theorem dL_law_619 : decode cL_law 619 = .ok (.aload_n 0, 1) := by decide +kernel
theorem dL_law_620 : decode cL_law 620 = .ok (.iload 4, 2) := by decide +kernel
theorem dL_law_622 : decode cL_law 622 = .ok (.iconst 1, 1) := by decide +kernel
theorem dL_law_623 : decode cL_law 623 = .ok (.iadd, 1) := by decide +kernel
theorem dL_law_624 : decode cL_law 624 = .ok (.iaload, 1) := by decide +kernel
theorem dL_law_625 : decode cL_law 625 = .ok (.invokevirtual 111, 3) := by decide +kernel
theorem dL_law_628 : decode cL_law 628 = .ok (.istore 6, 2) := by decide +kernel
theorem dL_law_630 : decode cL_law 630 = .ok (.aload_n 2, 1) := by decide +kernel
theorem dL_law_631 : decode cL_law 631 = .ok (.invokevirtual 84, 3) := by decide +kernel
theorem dL_law_634 : decode cL_law 634 = .ok (.iload 5, 2) := by decide +kernel
theorem dL_law_636 : decode cL_law 636 = .ok (.if_icmp .eq 5, 3) := by decide +kernel
theorem dL_law_639 : decode cL_law 639 = .ok (.iconst 0, 1) := by decide +kernel
theorem dL_law_640 : decode cL_law 640 = .ok (.ireturn, 1) := by decide +kernel
theorem dL_law_641 : decode cL_law 641 = .ok (.iload 5, 2) := by decide +kernel
theorem dL_law_643 : decode cL_law 643 = .ok (.ifCond .ne 15, 3) := by decide +kernel
theorem dL_law_646 : decode cL_law 646 = .ok (.aload_n 3, 1) := by decide +kernel
theorem dL_law_647 : decode cL_law 647 = .ok (.iconst 0, 1) := by decide +kernel
theorem dL_law_648 : decode cL_law 648 = .ok (.laload, 1) := by decide +kernel
theorem dL_law_649 : decode cL_law 649 = .ok (.iload 6, 2) := by decide +kernel
theorem dL_law_651 : decode cL_law 651 = .ok (.i2l, 1) := by decide +kernel
theorem dL_law_652 : decode cL_law 652 = .ok (.lcmp, 1) := by decide +kernel
theorem dL_law_653 : decode cL_law 653 = .ok (.ifCond .eq 5, 3) := by decide +kernel
theorem dL_law_656 : decode cL_law 656 = .ok (.iconst 0, 1) := by decide +kernel
theorem dL_law_657 : decode cL_law 657 = .ok (.ireturn, 1) := by decide +kernel
theorem dL_law_658 : decode cL_law 658 = .ok (.goto 774, 3) := by decide +kernel
theorem dL_law_661 : decode cL_law 661 = .ok (.aload_n 1, 1) := by decide +kernel
theorem dL_law_662 : decode cL_law 662 = .ok (.aload_n 0, 1) := by decide +kernel
theorem dL_law_663 : decode cL_law 663 = .ok (.iload 4, 2) := by decide +kernel
theorem dL_law_665 : decode cL_law 665 = .ok (.iconst 1, 1) := by decide +kernel
theorem dL_law_666 : decode cL_law 666 = .ok (.iadd, 1) := by decide +kernel
theorem dL_law_667 : decode cL_law 667 = .ok (.iaload, 1) := by decide +kernel
theorem dL_law_668 : decode cL_law 668 = .ok (.aload_n 3, 1) := by decide +kernel
theorem dL_law_669 : decode cL_law 669 = .ok (.invokestatic 112, 3) := by decide +kernel
theorem dL_law_672 : decode cL_law 672 = .ok (.istore 5, 2) := by decide +kernel
theorem dL_law_674 : decode cL_law 674 = .ok (.aload_n 2, 1) := by decide +kernel
theorem dL_law_675 : decode cL_law 675 = .ok (.aload_n 0, 1) := by decide +kernel
theorem dL_law_676 : decode cL_law 676 = .ok (.iload 4, 2) := by decide +kernel
theorem dL_law_678 : decode cL_law 678 = .ok (.iconst 1, 1) := by decide +kernel
theorem dL_law_679 : decode cL_law 679 = .ok (.iadd, 1) := by decide +kernel
theorem dL_law_680 : decode cL_law 680 = .ok (.iaload, 1) := by decide +kernel
theorem dL_law_681 : decode cL_law 681 = .ok (.invokevirtual 114, 3) := by decide +kernel
theorem dL_law_684 : decode cL_law 684 = .ok (.istore 6, 2) := by decide +kernel
theorem dL_law_686 : decode cL_law 686 = .ok (.aload_n 2, 1) := by decide +kernel
theorem dL_law_687 : decode cL_law 687 = .ok (.invokevirtual 84, 3) := by decide +kernel
theorem dL_law_690 : decode cL_law 690 = .ok (.iload 5, 2) := by decide +kernel
theorem dL_law_692 : decode cL_law 692 = .ok (.if_icmp .eq 5, 3) := by decide +kernel
theorem dL_law_695 : decode cL_law 695 = .ok (.iconst 0, 1) := by decide +kernel
theorem dL_law_696 : decode cL_law 696 = .ok (.ireturn, 1) := by decide +kernel
theorem dL_law_697 : decode cL_law 697 = .ok (.iload 5, 2) := by decide +kernel
theorem dL_law_699 : decode cL_law 699 = .ok (.ifCond .ne 22, 3) := by decide +kernel
theorem dL_law_702 : decode cL_law 702 = .ok (.aload_n 3, 1) := by decide +kernel
theorem dL_law_703 : decode cL_law 703 = .ok (.iconst 0, 1) := by decide +kernel
theorem dL_law_704 : decode cL_law 704 = .ok (.laload, 1) := by decide +kernel
theorem dL_law_705 : decode cL_law 705 = .ok (.iload 6, 2) := by decide +kernel
theorem dL_law_707 : decode cL_law 707 = .ok (.ifCond .eq 7, 3) := by decide +kernel
theorem dL_law_710 : decode cL_law 710 = .ok (.lconst 1, 1) := by decide +kernel
theorem dL_law_711 : decode cL_law 711 = .ok (.goto 4, 3) := by decide +kernel
theorem dL_law_714 : decode cL_law 714 = .ok (.lconst 0, 1) := by decide +kernel
theorem dL_law_715 : decode cL_law 715 = .ok (.lcmp, 1) := by decide +kernel
theorem dL_law_716 : decode cL_law 716 = .ok (.ifCond .eq 5, 3) := by decide +kernel
theorem dL_law_719 : decode cL_law 719 = .ok (.iconst 0, 1) := by decide +kernel
theorem dL_law_720 : decode cL_law 720 = .ok (.ireturn, 1) := by decide +kernel
theorem dL_law_721 : decode cL_law 721 = .ok (.goto 711, 3) := by decide +kernel
theorem dL_law_724 : decode cL_law 724 = .ok (.aload_n 1, 1) := by decide +kernel
theorem dL_law_725 : decode cL_law 725 = .ok (.aload_n 0, 1) := by decide +kernel
theorem dL_law_726 : decode cL_law 726 = .ok (.iload 4, 2) := by decide +kernel
theorem dL_law_728 : decode cL_law 728 = .ok (.iconst 1, 1) := by decide +kernel
theorem dL_law_729 : decode cL_law 729 = .ok (.iadd, 1) := by decide +kernel
theorem dL_law_730 : decode cL_law 730 = .ok (.iaload, 1) := by decide +kernel
theorem dL_law_731 : decode cL_law 731 = .ok (.aload_n 3, 1) := by decide +kernel
theorem dL_law_732 : decode cL_law 732 = .ok (.invokestatic 115, 3) := by decide +kernel
theorem dL_law_735 : decode cL_law 735 = .ok (.istore 5, 2) := by decide +kernel
theorem dL_law_737 : decode cL_law 737 = .ok (.aload_n 2, 1) := by decide +kernel
theorem dL_law_738 : decode cL_law 738 = .ok (.aload_n 0, 1) := by decide +kernel
theorem dL_law_739 : decode cL_law 739 = .ok (.iload 4, 2) := by decide +kernel
theorem dL_law_741 : decode cL_law 741 = .ok (.iconst 1, 1) := by decide +kernel
theorem dL_law_742 : decode cL_law 742 = .ok (.iadd, 1) := by decide +kernel
theorem dL_law_743 : decode cL_law 743 = .ok (.iaload, 1) := by decide +kernel
theorem dL_law_744 : decode cL_law 744 = .ok (.invokevirtual 117, 3) := by decide +kernel
theorem dL_law_747 : decode cL_law 747 = .ok (.istore 6, 2) := by decide +kernel
theorem dL_law_749 : decode cL_law 749 = .ok (.aload_n 2, 1) := by decide +kernel
theorem dL_law_750 : decode cL_law 750 = .ok (.invokevirtual 84, 3) := by decide +kernel
theorem dL_law_753 : decode cL_law 753 = .ok (.iload 5, 2) := by decide +kernel
theorem dL_law_755 : decode cL_law 755 = .ok (.if_icmp .eq 5, 3) := by decide +kernel
theorem dL_law_758 : decode cL_law 758 = .ok (.iconst 0, 1) := by decide +kernel
theorem dL_law_759 : decode cL_law 759 = .ok (.ireturn, 1) := by decide +kernel
theorem dL_law_760 : decode cL_law 760 = .ok (.iload 5, 2) := by decide +kernel
theorem dL_law_762 : decode cL_law 762 = .ok (.ifCond .ne 15, 3) := by decide +kernel
theorem dL_law_765 : decode cL_law 765 = .ok (.aload_n 3, 1) := by decide +kernel
theorem dL_law_766 : decode cL_law 766 = .ok (.iconst 0, 1) := by decide +kernel
theorem dL_law_767 : decode cL_law 767 = .ok (.laload, 1) := by decide +kernel
theorem dL_law_768 : decode cL_law 768 = .ok (.iload 6, 2) := by decide +kernel
theorem dL_law_770 : decode cL_law 770 = .ok (.i2l, 1) := by decide +kernel
theorem dL_law_771 : decode cL_law 771 = .ok (.lcmp, 1) := by decide +kernel
theorem dL_law_772 : decode cL_law 772 = .ok (.ifCond .eq 5, 3) := by decide +kernel
theorem dL_law_775 : decode cL_law 775 = .ok (.iconst 0, 1) := by decide +kernel
theorem dL_law_776 : decode cL_law 776 = .ok (.ireturn, 1) := by decide +kernel
theorem dL_law_777 : decode cL_law 777 = .ok (.goto 655, 3) := by decide +kernel
theorem dL_law_780 : decode cL_law 780 = .ok (.aload_n 1, 1) := by decide +kernel
theorem dL_law_781 : decode cL_law 781 = .ok (.aload_n 0, 1) := by decide +kernel
theorem dL_law_782 : decode cL_law 782 = .ok (.iload 4, 2) := by decide +kernel
theorem dL_law_784 : decode cL_law 784 = .ok (.iconst 1, 1) := by decide +kernel
theorem dL_law_785 : decode cL_law 785 = .ok (.iadd, 1) := by decide +kernel
theorem dL_law_786 : decode cL_law 786 = .ok (.iaload, 1) := by decide +kernel
theorem dL_law_787 : decode cL_law 787 = .ok (.aload_n 3, 1) := by decide +kernel
theorem dL_law_788 : decode cL_law 788 = .ok (.invokestatic 118, 3) := by decide +kernel
theorem dL_law_791 : decode cL_law 791 = .ok (.istore 5, 2) := by decide +kernel
theorem dL_law_793 : decode cL_law 793 = .ok (.aload_n 2, 1) := by decide +kernel
theorem dL_law_794 : decode cL_law 794 = .ok (.aload_n 0, 1) := by decide +kernel
theorem dL_law_795 : decode cL_law 795 = .ok (.iload 4, 2) := by decide +kernel
theorem dL_law_797 : decode cL_law 797 = .ok (.iconst 1, 1) := by decide +kernel
theorem dL_law_798 : decode cL_law 798 = .ok (.iadd, 1) := by decide +kernel
theorem dL_law_799 : decode cL_law 799 = .ok (.iaload, 1) := by decide +kernel
theorem dL_law_800 : decode cL_law 800 = .ok (.invokevirtual 120, 3) := by decide +kernel
theorem dL_law_803 : decode cL_law 803 = .ok (.istore 6, 2) := by decide +kernel
theorem dL_law_805 : decode cL_law 805 = .ok (.aload_n 2, 1) := by decide +kernel
theorem dL_law_806 : decode cL_law 806 = .ok (.invokevirtual 84, 3) := by decide +kernel
theorem dL_law_809 : decode cL_law 809 = .ok (.iload 5, 2) := by decide +kernel
theorem dL_law_811 : decode cL_law 811 = .ok (.if_icmp .eq 5, 3) := by decide +kernel
theorem dL_law_814 : decode cL_law 814 = .ok (.iconst 0, 1) := by decide +kernel
theorem dL_law_815 : decode cL_law 815 = .ok (.ireturn, 1) := by decide +kernel
theorem dL_law_816 : decode cL_law 816 = .ok (.iload 5, 2) := by decide +kernel
theorem dL_law_818 : decode cL_law 818 = .ok (.ifCond .ne 22, 3) := by decide +kernel
theorem dL_law_821 : decode cL_law 821 = .ok (.aload_n 3, 1) := by decide +kernel
theorem dL_law_822 : decode cL_law 822 = .ok (.iconst 0, 1) := by decide +kernel
theorem dL_law_823 : decode cL_law 823 = .ok (.laload, 1) := by decide +kernel
theorem dL_law_824 : decode cL_law 824 = .ok (.iload 6, 2) := by decide +kernel
theorem dL_law_826 : decode cL_law 826 = .ok (.ifCond .eq 7, 3) := by decide +kernel
theorem dL_law_829 : decode cL_law 829 = .ok (.lconst 1, 1) := by decide +kernel
theorem dL_law_830 : decode cL_law 830 = .ok (.goto 4, 3) := by decide +kernel
theorem dL_law_833 : decode cL_law 833 = .ok (.lconst 0, 1) := by decide +kernel
theorem dL_law_834 : decode cL_law 834 = .ok (.lcmp, 1) := by decide +kernel
theorem dL_law_835 : decode cL_law 835 = .ok (.ifCond .eq 5, 3) := by decide +kernel
theorem dL_law_838 : decode cL_law 838 = .ok (.iconst 0, 1) := by decide +kernel
theorem dL_law_839 : decode cL_law 839 = .ok (.ireturn, 1) := by decide +kernel
theorem dL_law_840 : decode cL_law 840 = .ok (.goto 592, 3) := by decide +kernel
theorem dL_law_843 : decode cL_law 843 = .ok (.aload_n 1, 1) := by decide +kernel
theorem dL_law_844 : decode cL_law 844 = .ok (.aload_n 0, 1) := by decide +kernel
theorem dL_law_845 : decode cL_law 845 = .ok (.iload 4, 2) := by decide +kernel
theorem dL_law_847 : decode cL_law 847 = .ok (.iconst 1, 1) := by decide +kernel
theorem dL_law_848 : decode cL_law 848 = .ok (.iadd, 1) := by decide +kernel
theorem dL_law_849 : decode cL_law 849 = .ok (.iaload, 1) := by decide +kernel
theorem dL_law_850 : decode cL_law 850 = .ok (.aload_n 3, 1) := by decide +kernel
theorem dL_law_851 : decode cL_law 851 = .ok (.invokestatic 121, 3) := by decide +kernel
theorem dL_law_854 : decode cL_law 854 = .ok (.istore 5, 2) := by decide +kernel
theorem dL_law_856 : decode cL_law 856 = .ok (.aload_n 2, 1) := by decide +kernel
theorem dL_law_857 : decode cL_law 857 = .ok (.aload_n 0, 1) := by decide +kernel
theorem dL_law_858 : decode cL_law 858 = .ok (.iload 4, 2) := by decide +kernel
theorem dL_law_860 : decode cL_law 860 = .ok (.iconst 1, 1) := by decide +kernel
theorem dL_law_861 : decode cL_law 861 = .ok (.iadd, 1) := by decide +kernel
theorem dL_law_862 : decode cL_law 862 = .ok (.iaload, 1) := by decide +kernel
theorem dL_law_863 : decode cL_law 863 = .ok (.invokevirtual 123, 3) := by decide +kernel
theorem dL_law_866 : decode cL_law 866 = .ok (.istore 6, 2) := by decide +kernel
theorem dL_law_868 : decode cL_law 868 = .ok (.aload_n 2, 1) := by decide +kernel
theorem dL_law_869 : decode cL_law 869 = .ok (.invokevirtual 84, 3) := by decide +kernel
theorem dL_law_872 : decode cL_law 872 = .ok (.iload 5, 2) := by decide +kernel
theorem dL_law_874 : decode cL_law 874 = .ok (.if_icmp .eq 5, 3) := by decide +kernel
theorem dL_law_877 : decode cL_law 877 = .ok (.iconst 0, 1) := by decide +kernel
theorem dL_law_878 : decode cL_law 878 = .ok (.ireturn, 1) := by decide +kernel
theorem dL_law_879 : decode cL_law 879 = .ok (.iload 5, 2) := by decide +kernel
theorem dL_law_881 : decode cL_law 881 = .ok (.ifCond .ne 15, 3) := by decide +kernel
theorem dL_law_884 : decode cL_law 884 = .ok (.aload_n 3, 1) := by decide +kernel
theorem dL_law_885 : decode cL_law 885 = .ok (.iconst 0, 1) := by decide +kernel
theorem dL_law_886 : decode cL_law 886 = .ok (.laload, 1) := by decide +kernel
theorem dL_law_887 : decode cL_law 887 = .ok (.iload 6, 2) := by decide +kernel
theorem dL_law_889 : decode cL_law 889 = .ok (.i2l, 1) := by decide +kernel
theorem dL_law_890 : decode cL_law 890 = .ok (.lcmp, 1) := by decide +kernel
theorem dL_law_891 : decode cL_law 891 = .ok (.ifCond .eq 5, 3) := by decide +kernel
theorem dL_law_894 : decode cL_law 894 = .ok (.iconst 0, 1) := by decide +kernel
theorem dL_law_895 : decode cL_law 895 = .ok (.ireturn, 1) := by decide +kernel
theorem dL_law_896 : decode cL_law 896 = .ok (.goto 536, 3) := by decide +kernel
theorem dL_law_899 : decode cL_law 899 = .ok (.aload_n 1, 1) := by decide +kernel
theorem dL_law_900 : decode cL_law 900 = .ok (.aload_n 0, 1) := by decide +kernel
theorem dL_law_901 : decode cL_law 901 = .ok (.iload 4, 2) := by decide +kernel
theorem dL_law_903 : decode cL_law 903 = .ok (.iconst 1, 1) := by decide +kernel
theorem dL_law_904 : decode cL_law 904 = .ok (.iadd, 1) := by decide +kernel
theorem dL_law_905 : decode cL_law 905 = .ok (.iaload, 1) := by decide +kernel
theorem dL_law_906 : decode cL_law 906 = .ok (.aload_n 3, 1) := by decide +kernel
theorem dL_law_907 : decode cL_law 907 = .ok (.invokestatic 124, 3) := by decide +kernel
theorem dL_law_910 : decode cL_law 910 = .ok (.istore 5, 2) := by decide +kernel
theorem dL_law_912 : decode cL_law 912 = .ok (.aload_n 2, 1) := by decide +kernel
theorem dL_law_913 : decode cL_law 913 = .ok (.aload_n 0, 1) := by decide +kernel
theorem dL_law_914 : decode cL_law 914 = .ok (.iload 4, 2) := by decide +kernel
theorem dL_law_916 : decode cL_law 916 = .ok (.iconst 1, 1) := by decide +kernel
theorem dL_law_917 : decode cL_law 917 = .ok (.iadd, 1) := by decide +kernel
theorem dL_law_918 : decode cL_law 918 = .ok (.iaload, 1) := by decide +kernel
theorem dL_law_919 : decode cL_law 919 = .ok (.invokevirtual 126, 3) := by decide +kernel
theorem dL_law_922 : decode cL_law 922 = .ok (.istore 6, 2) := by decide +kernel
theorem dL_law_924 : decode cL_law 924 = .ok (.aload_n 2, 1) := by decide +kernel
theorem dL_law_925 : decode cL_law 925 = .ok (.invokevirtual 84, 3) := by decide +kernel
theorem dL_law_928 : decode cL_law 928 = .ok (.iload 5, 2) := by decide +kernel
theorem dL_law_930 : decode cL_law 930 = .ok (.if_icmp .eq 5, 3) := by decide +kernel
theorem dL_law_933 : decode cL_law 933 = .ok (.iconst 0, 1) := by decide +kernel
theorem dL_law_934 : decode cL_law 934 = .ok (.ireturn, 1) := by decide +kernel
theorem dL_law_935 : decode cL_law 935 = .ok (.iload 5, 2) := by decide +kernel
theorem dL_law_937 : decode cL_law 937 = .ok (.ifCond .ne 15, 3) := by decide +kernel
theorem dL_law_940 : decode cL_law 940 = .ok (.aload_n 3, 1) := by decide +kernel
theorem dL_law_941 : decode cL_law 941 = .ok (.iconst 0, 1) := by decide +kernel
theorem dL_law_942 : decode cL_law 942 = .ok (.laload, 1) := by decide +kernel
theorem dL_law_943 : decode cL_law 943 = .ok (.iload 6, 2) := by decide +kernel
theorem dL_law_945 : decode cL_law 945 = .ok (.i2l, 1) := by decide +kernel
theorem dL_law_946 : decode cL_law 946 = .ok (.lcmp, 1) := by decide +kernel
theorem dL_law_947 : decode cL_law 947 = .ok (.ifCond .eq 5, 3) := by decide +kernel
theorem dL_law_950 : decode cL_law 950 = .ok (.iconst 0, 1) := by decide +kernel
theorem dL_law_951 : decode cL_law 951 = .ok (.ireturn, 1) := by decide +kernel
theorem dL_law_952 : decode cL_law 952 = .ok (.goto 480, 3) := by decide +kernel
theorem dL_law_955 : decode cL_law 955 = .ok (.aload_n 1, 1) := by decide +kernel
theorem dL_law_956 : decode cL_law 956 = .ok (.aload_n 0, 1) := by decide +kernel
theorem dL_law_957 : decode cL_law 957 = .ok (.iload 4, 2) := by decide +kernel
theorem dL_law_959 : decode cL_law 959 = .ok (.iconst 1, 1) := by decide +kernel
theorem dL_law_960 : decode cL_law 960 = .ok (.iadd, 1) := by decide +kernel
theorem dL_law_961 : decode cL_law 961 = .ok (.iaload, 1) := by decide +kernel
theorem dL_law_962 : decode cL_law 962 = .ok (.aload_n 0, 1) := by decide +kernel
theorem dL_law_963 : decode cL_law 963 = .ok (.iload 4, 2) := by decide +kernel
theorem dL_law_965 : decode cL_law 965 = .ok (.iconst 2, 1) := by decide +kernel
theorem dL_law_966 : decode cL_law 966 = .ok (.iadd, 1) := by decide +kernel
theorem dL_law_967 : decode cL_law 967 = .ok (.iaload, 1) := by decide +kernel
theorem dL_law_968 : decode cL_law 968 = .ok (.aload_n 3, 1) := by decide +kernel
theorem dL_law_969 : decode cL_law 969 = .ok (.invokestatic 127, 3) := by decide +kernel
theorem dL_law_972 : decode cL_law 972 = .ok (.istore 5, 2) := by decide +kernel
theorem dL_law_974 : decode cL_law 974 = .ok (.aload_n 2, 1) := by decide +kernel
theorem dL_law_975 : decode cL_law 975 = .ok (.aload_n 0, 1) := by decide +kernel
theorem dL_law_976 : decode cL_law 976 = .ok (.iload 4, 2) := by decide +kernel
theorem dL_law_978 : decode cL_law 978 = .ok (.iconst 1, 1) := by decide +kernel
theorem dL_law_979 : decode cL_law 979 = .ok (.iadd, 1) := by decide +kernel
theorem dL_law_980 : decode cL_law 980 = .ok (.iaload, 1) := by decide +kernel
theorem dL_law_981 : decode cL_law 981 = .ok (.aload_n 0, 1) := by decide +kernel
theorem dL_law_982 : decode cL_law 982 = .ok (.iload 4, 2) := by decide +kernel
theorem dL_law_984 : decode cL_law 984 = .ok (.iconst 2, 1) := by decide +kernel
theorem dL_law_985 : decode cL_law 985 = .ok (.iadd, 1) := by decide +kernel
theorem dL_law_986 : decode cL_law 986 = .ok (.iaload, 1) := by decide +kernel
theorem dL_law_987 : decode cL_law 987 = .ok (.invokevirtual 129, 3) := by decide +kernel
theorem dL_law_990 : decode cL_law 990 = .ok (.istore 6, 2) := by decide +kernel
theorem dL_law_992 : decode cL_law 992 = .ok (.aload_n 2, 1) := by decide +kernel
theorem dL_law_993 : decode cL_law 993 = .ok (.invokevirtual 84, 3) := by decide +kernel
theorem dL_law_996 : decode cL_law 996 = .ok (.iload 5, 2) := by decide +kernel
theorem dL_law_998 : decode cL_law 998 = .ok (.if_icmp .eq 5, 3) := by decide +kernel
theorem dL_law_1001 : decode cL_law 1001 = .ok (.iconst 0, 1) := by decide +kernel
theorem dL_law_1002 : decode cL_law 1002 = .ok (.ireturn, 1) := by decide +kernel
theorem dL_law_1003 : decode cL_law 1003 = .ok (.iload 5, 2) := by decide +kernel
theorem dL_law_1005 : decode cL_law 1005 = .ok (.ifCond .ne 15, 3) := by decide +kernel
theorem dL_law_1008 : decode cL_law 1008 = .ok (.aload_n 3, 1) := by decide +kernel
theorem dL_law_1009 : decode cL_law 1009 = .ok (.iconst 0, 1) := by decide +kernel
theorem dL_law_1010 : decode cL_law 1010 = .ok (.laload, 1) := by decide +kernel
theorem dL_law_1011 : decode cL_law 1011 = .ok (.iload 6, 2) := by decide +kernel
theorem dL_law_1013 : decode cL_law 1013 = .ok (.i2l, 1) := by decide +kernel
theorem dL_law_1014 : decode cL_law 1014 = .ok (.lcmp, 1) := by decide +kernel
theorem dL_law_1015 : decode cL_law 1015 = .ok (.ifCond .eq 5, 3) := by decide +kernel
theorem dL_law_1018 : decode cL_law 1018 = .ok (.iconst 0, 1) := by decide +kernel
theorem dL_law_1019 : decode cL_law 1019 = .ok (.ireturn, 1) := by decide +kernel
theorem dL_law_1020 : decode cL_law 1020 = .ok (.goto 412, 3) := by decide +kernel
theorem dL_law_1023 : decode cL_law 1023 = .ok (.aload_n 1, 1) := by decide +kernel
theorem dL_law_1024 : decode cL_law 1024 = .ok (.invokevirtual 130, 3) := by decide +kernel
theorem dL_law_1027 : decode cL_law 1027 = .ok (.aload_n 2, 1) := by decide +kernel
theorem dL_law_1028 : decode cL_law 1028 = .ok (.invokevirtual 133, 3) := by decide +kernel
theorem dL_law_1031 : decode cL_law 1031 = .ok (.if_icmp .eq 401, 3) := by decide +kernel
theorem dL_law_1034 : decode cL_law 1034 = .ok (.iconst 0, 1) := by decide +kernel
theorem dL_law_1035 : decode cL_law 1035 = .ok (.ireturn, 1) := by decide +kernel
theorem dL_law_1036 : decode cL_law 1036 = .ok (.aload_n 1, 1) := by decide +kernel
theorem dL_law_1037 : decode cL_law 1037 = .ok (.aload_n 0, 1) := by decide +kernel
theorem dL_law_1038 : decode cL_law 1038 = .ok (.iload 4, 2) := by decide +kernel
theorem dL_law_1040 : decode cL_law 1040 = .ok (.iconst 1, 1) := by decide +kernel
theorem dL_law_1041 : decode cL_law 1041 = .ok (.iadd, 1) := by decide +kernel
theorem dL_law_1042 : decode cL_law 1042 = .ok (.iaload, 1) := by decide +kernel
theorem dL_law_1043 : decode cL_law 1043 = .ok (.aload_n 3, 1) := by decide +kernel
theorem dL_law_1044 : decode cL_law 1044 = .ok (.invokestatic 134, 3) := by decide +kernel
theorem dL_law_1047 : decode cL_law 1047 = .ok (.istore 5, 2) := by decide +kernel
theorem dL_law_1049 : decode cL_law 1049 = .ok (.aload_n 2, 1) := by decide +kernel
theorem dL_law_1050 : decode cL_law 1050 = .ok (.aload_n 0, 1) := by decide +kernel
theorem dL_law_1051 : decode cL_law 1051 = .ok (.iload 4, 2) := by decide +kernel
theorem dL_law_1053 : decode cL_law 1053 = .ok (.iconst 1, 1) := by decide +kernel
theorem dL_law_1054 : decode cL_law 1054 = .ok (.iadd, 1) := by decide +kernel
theorem dL_law_1055 : decode cL_law 1055 = .ok (.iaload, 1) := by decide +kernel
theorem dL_law_1056 : decode cL_law 1056 = .ok (.invokevirtual 136, 3) := by decide +kernel
theorem dL_law_1059 : decode cL_law 1059 = .ok (.istore 6, 2) := by decide +kernel
theorem dL_law_1061 : decode cL_law 1061 = .ok (.aload_n 2, 1) := by decide +kernel
theorem dL_law_1062 : decode cL_law 1062 = .ok (.invokevirtual 84, 3) := by decide +kernel
theorem dL_law_1065 : decode cL_law 1065 = .ok (.iload 5, 2) := by decide +kernel
theorem dL_law_1067 : decode cL_law 1067 = .ok (.if_icmp .eq 5, 3) := by decide +kernel
theorem dL_law_1070 : decode cL_law 1070 = .ok (.iconst 0, 1) := by decide +kernel
theorem dL_law_1071 : decode cL_law 1071 = .ok (.ireturn, 1) := by decide +kernel
theorem dL_law_1072 : decode cL_law 1072 = .ok (.iload 5, 2) := by decide +kernel
theorem dL_law_1074 : decode cL_law 1074 = .ok (.ifCond .ne 15, 3) := by decide +kernel
theorem dL_law_1077 : decode cL_law 1077 = .ok (.aload_n 3, 1) := by decide +kernel
theorem dL_law_1078 : decode cL_law 1078 = .ok (.iconst 0, 1) := by decide +kernel
theorem dL_law_1079 : decode cL_law 1079 = .ok (.laload, 1) := by decide +kernel
theorem dL_law_1080 : decode cL_law 1080 = .ok (.iload 6, 2) := by decide +kernel
theorem dL_law_1082 : decode cL_law 1082 = .ok (.i2l, 1) := by decide +kernel
theorem dL_law_1083 : decode cL_law 1083 = .ok (.lcmp, 1) := by decide +kernel
theorem dL_law_1084 : decode cL_law 1084 = .ok (.ifCond .eq 5, 3) := by decide +kernel
theorem dL_law_1087 : decode cL_law 1087 = .ok (.iconst 0, 1) := by decide +kernel
theorem dL_law_1088 : decode cL_law 1088 = .ok (.ireturn, 1) := by decide +kernel
theorem dL_law_1089 : decode cL_law 1089 = .ok (.goto 343, 3) := by decide +kernel
theorem dL_law_1092 : decode cL_law 1092 = .ok (.aload_n 1, 1) := by decide +kernel
theorem dL_law_1093 : decode cL_law 1093 = .ok (.aload_n 0, 1) := by decide +kernel
theorem dL_law_1094 : decode cL_law 1094 = .ok (.iload 4, 2) := by decide +kernel
theorem dL_law_1096 : decode cL_law 1096 = .ok (.iconst 1, 1) := by decide +kernel
theorem dL_law_1097 : decode cL_law 1097 = .ok (.iadd, 1) := by decide +kernel
theorem dL_law_1098 : decode cL_law 1098 = .ok (.iaload, 1) := by decide +kernel
theorem dL_law_1099 : decode cL_law 1099 = .ok (.aload_n 3, 1) := by decide +kernel
theorem dL_law_1100 : decode cL_law 1100 = .ok (.invokestatic 137, 3) := by decide +kernel
theorem dL_law_1103 : decode cL_law 1103 = .ok (.istore 5, 2) := by decide +kernel
theorem dL_law_1105 : decode cL_law 1105 = .ok (.aload_n 2, 1) := by decide +kernel
theorem dL_law_1106 : decode cL_law 1106 = .ok (.aload_n 0, 1) := by decide +kernel
theorem dL_law_1107 : decode cL_law 1107 = .ok (.iload 4, 2) := by decide +kernel
theorem dL_law_1109 : decode cL_law 1109 = .ok (.iconst 1, 1) := by decide +kernel
theorem dL_law_1110 : decode cL_law 1110 = .ok (.iadd, 1) := by decide +kernel
theorem dL_law_1111 : decode cL_law 1111 = .ok (.iaload, 1) := by decide +kernel
theorem dL_law_1112 : decode cL_law 1112 = .ok (.invokevirtual 139, 3) := by decide +kernel
theorem dL_law_1115 : decode cL_law 1115 = .ok (.istore 6, 2) := by decide +kernel
theorem dL_law_1117 : decode cL_law 1117 = .ok (.aload_n 2, 1) := by decide +kernel
theorem dL_law_1118 : decode cL_law 1118 = .ok (.invokevirtual 84, 3) := by decide +kernel
theorem dL_law_1121 : decode cL_law 1121 = .ok (.iload 5, 2) := by decide +kernel
theorem dL_law_1123 : decode cL_law 1123 = .ok (.if_icmp .eq 5, 3) := by decide +kernel
theorem dL_law_1126 : decode cL_law 1126 = .ok (.iconst 0, 1) := by decide +kernel
theorem dL_law_1127 : decode cL_law 1127 = .ok (.ireturn, 1) := by decide +kernel
theorem dL_law_1128 : decode cL_law 1128 = .ok (.iload 5, 2) := by decide +kernel
theorem dL_law_1130 : decode cL_law 1130 = .ok (.ifCond .ne 15, 3) := by decide +kernel
theorem dL_law_1133 : decode cL_law 1133 = .ok (.aload_n 3, 1) := by decide +kernel
theorem dL_law_1134 : decode cL_law 1134 = .ok (.iconst 0, 1) := by decide +kernel
theorem dL_law_1135 : decode cL_law 1135 = .ok (.laload, 1) := by decide +kernel
theorem dL_law_1136 : decode cL_law 1136 = .ok (.iload 6, 2) := by decide +kernel
theorem dL_law_1138 : decode cL_law 1138 = .ok (.i2l, 1) := by decide +kernel
theorem dL_law_1139 : decode cL_law 1139 = .ok (.lcmp, 1) := by decide +kernel
theorem dL_law_1140 : decode cL_law 1140 = .ok (.ifCond .eq 5, 3) := by decide +kernel
theorem dL_law_1143 : decode cL_law 1143 = .ok (.iconst 0, 1) := by decide +kernel
theorem dL_law_1144 : decode cL_law 1144 = .ok (.ireturn, 1) := by decide +kernel
theorem dL_law_1145 : decode cL_law 1145 = .ok (.goto 287, 3) := by decide +kernel
theorem dL_law_1148 : decode cL_law 1148 = .ok (.aload_n 1, 1) := by decide +kernel
theorem dL_law_1149 : decode cL_law 1149 = .ok (.aload_n 0, 1) := by decide +kernel
theorem dL_law_1150 : decode cL_law 1150 = .ok (.iload 4, 2) := by decide +kernel
theorem dL_law_1152 : decode cL_law 1152 = .ok (.iconst 1, 1) := by decide +kernel
theorem dL_law_1153 : decode cL_law 1153 = .ok (.iadd, 1) := by decide +kernel
theorem dL_law_1154 : decode cL_law 1154 = .ok (.iaload, 1) := by decide +kernel
theorem dL_law_1155 : decode cL_law 1155 = .ok (.aload_n 0, 1) := by decide +kernel
theorem dL_law_1156 : decode cL_law 1156 = .ok (.iload 4, 2) := by decide +kernel
theorem dL_law_1158 : decode cL_law 1158 = .ok (.iconst 2, 1) := by decide +kernel
theorem dL_law_1159 : decode cL_law 1159 = .ok (.iadd, 1) := by decide +kernel
theorem dL_law_1160 : decode cL_law 1160 = .ok (.iaload, 1) := by decide +kernel
theorem dL_law_1161 : decode cL_law 1161 = .ok (.aload_n 0, 1) := by decide +kernel
theorem dL_law_1162 : decode cL_law 1162 = .ok (.iload 4, 2) := by decide +kernel
theorem dL_law_1164 : decode cL_law 1164 = .ok (.iconst 3, 1) := by decide +kernel
theorem dL_law_1165 : decode cL_law 1165 = .ok (.iadd, 1) := by decide +kernel
theorem dL_law_1166 : decode cL_law 1166 = .ok (.iaload, 1) := by decide +kernel
theorem dL_law_1167 : decode cL_law 1167 = .ok (.aload_n 3, 1) := by decide +kernel
theorem dL_law_1168 : decode cL_law 1168 = .ok (.invokestatic 140, 3) := by decide +kernel
theorem dL_law_1171 : decode cL_law 1171 = .ok (.istore 5, 2) := by decide +kernel
theorem dL_law_1173 : decode cL_law 1173 = .ok (.aload_n 2, 1) := by decide +kernel
theorem dL_law_1174 : decode cL_law 1174 = .ok (.aload_n 0, 1) := by decide +kernel
theorem dL_law_1175 : decode cL_law 1175 = .ok (.iload 4, 2) := by decide +kernel
theorem dL_law_1177 : decode cL_law 1177 = .ok (.iconst 1, 1) := by decide +kernel
theorem dL_law_1178 : decode cL_law 1178 = .ok (.iadd, 1) := by decide +kernel
theorem dL_law_1179 : decode cL_law 1179 = .ok (.iaload, 1) := by decide +kernel
theorem dL_law_1180 : decode cL_law 1180 = .ok (.aload_n 0, 1) := by decide +kernel
theorem dL_law_1181 : decode cL_law 1181 = .ok (.iload 4, 2) := by decide +kernel
theorem dL_law_1183 : decode cL_law 1183 = .ok (.iconst 2, 1) := by decide +kernel
theorem dL_law_1184 : decode cL_law 1184 = .ok (.iadd, 1) := by decide +kernel
theorem dL_law_1185 : decode cL_law 1185 = .ok (.iaload, 1) := by decide +kernel
theorem dL_law_1186 : decode cL_law 1186 = .ok (.aload_n 0, 1) := by decide +kernel
theorem dL_law_1187 : decode cL_law 1187 = .ok (.iload 4, 2) := by decide +kernel
theorem dL_law_1189 : decode cL_law 1189 = .ok (.iconst 3, 1) := by decide +kernel
theorem dL_law_1190 : decode cL_law 1190 = .ok (.iadd, 1) := by decide +kernel
theorem dL_law_1191 : decode cL_law 1191 = .ok (.iaload, 1) := by decide +kernel
theorem dL_law_1192 : decode cL_law 1192 = .ok (.invokevirtual 143, 3) := by decide +kernel
theorem dL_law_1195 : decode cL_law 1195 = .ok (.istore 6, 2) := by decide +kernel
theorem dL_law_1197 : decode cL_law 1197 = .ok (.aload_n 2, 1) := by decide +kernel
theorem dL_law_1198 : decode cL_law 1198 = .ok (.invokevirtual 84, 3) := by decide +kernel
theorem dL_law_1201 : decode cL_law 1201 = .ok (.iload 5, 2) := by decide +kernel
theorem dL_law_1203 : decode cL_law 1203 = .ok (.if_icmp .eq 5, 3) := by decide +kernel
theorem dL_law_1206 : decode cL_law 1206 = .ok (.iconst 0, 1) := by decide +kernel
theorem dL_law_1207 : decode cL_law 1207 = .ok (.ireturn, 1) := by decide +kernel
theorem dL_law_1208 : decode cL_law 1208 = .ok (.iload 5, 2) := by decide +kernel
theorem dL_law_1210 : decode cL_law 1210 = .ok (.ifCond .ne 15, 3) := by decide +kernel
theorem dL_law_1213 : decode cL_law 1213 = .ok (.aload_n 3, 1) := by decide +kernel
theorem dL_law_1214 : decode cL_law 1214 = .ok (.iconst 0, 1) := by decide +kernel
theorem dL_law_1215 : decode cL_law 1215 = .ok (.laload, 1) := by decide +kernel
theorem dL_law_1216 : decode cL_law 1216 = .ok (.iload 6, 2) := by decide +kernel
theorem dL_law_1218 : decode cL_law 1218 = .ok (.i2l, 1) := by decide +kernel
theorem dL_law_1219 : decode cL_law 1219 = .ok (.lcmp, 1) := by decide +kernel
theorem dL_law_1220 : decode cL_law 1220 = .ok (.ifCond .eq 5, 3) := by decide +kernel
theorem dL_law_1223 : decode cL_law 1223 = .ok (.iconst 0, 1) := by decide +kernel
theorem dL_law_1224 : decode cL_law 1224 = .ok (.ireturn, 1) := by decide +kernel
theorem dL_law_1225 : decode cL_law 1225 = .ok (.goto 207, 3) := by decide +kernel
theorem dL_law_1228 : decode cL_law 1228 = .ok (.aload_n 1, 1) := by decide +kernel
theorem dL_law_1229 : decode cL_law 1229 = .ok (.invokevirtual 144, 3) := by decide +kernel
theorem dL_law_1232 : decode cL_law 1232 = .ok (.aload_n 2, 1) := by decide +kernel
theorem dL_law_1233 : decode cL_law 1233 = .ok (.invokevirtual 147, 3) := by decide +kernel
theorem dL_law_1236 : decode cL_law 1236 = .ok (.if_icmp .eq 196, 3) := by decide +kernel
theorem dL_law_1239 : decode cL_law 1239 = .ok (.iconst 0, 1) := by decide +kernel
theorem dL_law_1240 : decode cL_law 1240 = .ok (.ireturn, 1) := by decide +kernel
theorem dL_law_1241 : decode cL_law 1241 = .ok (.aload_n 1, 1) := by decide +kernel
theorem dL_law_1242 : decode cL_law 1242 = .ok (.aload_n 0, 1) := by decide +kernel
theorem dL_law_1243 : decode cL_law 1243 = .ok (.iload 4, 2) := by decide +kernel
theorem dL_law_1245 : decode cL_law 1245 = .ok (.iconst 1, 1) := by decide +kernel
theorem dL_law_1246 : decode cL_law 1246 = .ok (.iadd, 1) := by decide +kernel
theorem dL_law_1247 : decode cL_law 1247 = .ok (.iaload, 1) := by decide +kernel
theorem dL_law_1248 : decode cL_law 1248 = .ok (.aload_n 0, 1) := by decide +kernel
theorem dL_law_1249 : decode cL_law 1249 = .ok (.iload 4, 2) := by decide +kernel
theorem dL_law_1251 : decode cL_law 1251 = .ok (.iconst 2, 1) := by decide +kernel
theorem dL_law_1252 : decode cL_law 1252 = .ok (.iadd, 1) := by decide +kernel
theorem dL_law_1253 : decode cL_law 1253 = .ok (.iaload, 1) := by decide +kernel
theorem dL_law_1254 : decode cL_law 1254 = .ok (.aload_n 3, 1) := by decide +kernel
theorem dL_law_1255 : decode cL_law 1255 = .ok (.invokestatic 148, 3) := by decide +kernel
theorem dL_law_1258 : decode cL_law 1258 = .ok (.istore 5, 2) := by decide +kernel
theorem dL_law_1260 : decode cL_law 1260 = .ok (.aload_n 2, 1) := by decide +kernel
theorem dL_law_1261 : decode cL_law 1261 = .ok (.aload_n 0, 1) := by decide +kernel
theorem dL_law_1262 : decode cL_law 1262 = .ok (.iload 4, 2) := by decide +kernel
theorem dL_law_1264 : decode cL_law 1264 = .ok (.iconst 1, 1) := by decide +kernel
theorem dL_law_1265 : decode cL_law 1265 = .ok (.iadd, 1) := by decide +kernel
theorem dL_law_1266 : decode cL_law 1266 = .ok (.iaload, 1) := by decide +kernel
theorem dL_law_1267 : decode cL_law 1267 = .ok (.aload_n 0, 1) := by decide +kernel
theorem dL_law_1268 : decode cL_law 1268 = .ok (.iload 4, 2) := by decide +kernel
theorem dL_law_1270 : decode cL_law 1270 = .ok (.iconst 2, 1) := by decide +kernel
theorem dL_law_1271 : decode cL_law 1271 = .ok (.iadd, 1) := by decide +kernel
theorem dL_law_1272 : decode cL_law 1272 = .ok (.iaload, 1) := by decide +kernel
theorem dL_law_1273 : decode cL_law 1273 = .ok (.invokevirtual 150, 3) := by decide +kernel
theorem dL_law_1276 : decode cL_law 1276 = .ok (.istore 6, 2) := by decide +kernel
theorem dL_law_1278 : decode cL_law 1278 = .ok (.aload_n 2, 1) := by decide +kernel
theorem dL_law_1279 : decode cL_law 1279 = .ok (.invokevirtual 84, 3) := by decide +kernel
theorem dL_law_1282 : decode cL_law 1282 = .ok (.iload 5, 2) := by decide +kernel
theorem dL_law_1284 : decode cL_law 1284 = .ok (.if_icmp .eq 5, 3) := by decide +kernel
theorem dL_law_1287 : decode cL_law 1287 = .ok (.iconst 0, 1) := by decide +kernel
theorem dL_law_1288 : decode cL_law 1288 = .ok (.ireturn, 1) := by decide +kernel
theorem dL_law_1289 : decode cL_law 1289 = .ok (.iload 5, 2) := by decide +kernel
theorem dL_law_1291 : decode cL_law 1291 = .ok (.ifCond .ne 15, 3) := by decide +kernel
theorem dL_law_1294 : decode cL_law 1294 = .ok (.aload_n 3, 1) := by decide +kernel
theorem dL_law_1295 : decode cL_law 1295 = .ok (.iconst 0, 1) := by decide +kernel
theorem dL_law_1296 : decode cL_law 1296 = .ok (.laload, 1) := by decide +kernel
theorem dL_law_1297 : decode cL_law 1297 = .ok (.iload 6, 2) := by decide +kernel
theorem dL_law_1299 : decode cL_law 1299 = .ok (.i2l, 1) := by decide +kernel
theorem dL_law_1300 : decode cL_law 1300 = .ok (.lcmp, 1) := by decide +kernel
theorem dL_law_1301 : decode cL_law 1301 = .ok (.ifCond .eq 5, 3) := by decide +kernel
theorem dL_law_1304 : decode cL_law 1304 = .ok (.iconst 0, 1) := by decide +kernel
theorem dL_law_1305 : decode cL_law 1305 = .ok (.ireturn, 1) := by decide +kernel
theorem dL_law_1306 : decode cL_law 1306 = .ok (.goto 126, 3) := by decide +kernel
theorem dL_law_1309 : decode cL_law 1309 = .ok (.aload_n 1, 1) := by decide +kernel
theorem dL_law_1310 : decode cL_law 1310 = .ok (.aload_n 0, 1) := by decide +kernel
theorem dL_law_1311 : decode cL_law 1311 = .ok (.iload 4, 2) := by decide +kernel
theorem dL_law_1313 : decode cL_law 1313 = .ok (.iconst 1, 1) := by decide +kernel
theorem dL_law_1314 : decode cL_law 1314 = .ok (.iadd, 1) := by decide +kernel
theorem dL_law_1315 : decode cL_law 1315 = .ok (.iaload, 1) := by decide +kernel
theorem dL_law_1316 : decode cL_law 1316 = .ok (.aload_n 0, 1) := by decide +kernel
theorem dL_law_1317 : decode cL_law 1317 = .ok (.iload 4, 2) := by decide +kernel
theorem dL_law_1319 : decode cL_law 1319 = .ok (.iconst 2, 1) := by decide +kernel
theorem dL_law_1320 : decode cL_law 1320 = .ok (.iadd, 1) := by decide +kernel
theorem dL_law_1321 : decode cL_law 1321 = .ok (.iaload, 1) := by decide +kernel
theorem dL_law_1322 : decode cL_law 1322 = .ok (.aload_n 3, 1) := by decide +kernel
theorem dL_law_1323 : decode cL_law 1323 = .ok (.invokestatic 151, 3) := by decide +kernel
theorem dL_law_1326 : decode cL_law 1326 = .ok (.istore 5, 2) := by decide +kernel
theorem dL_law_1328 : decode cL_law 1328 = .ok (.aload_n 2, 1) := by decide +kernel
theorem dL_law_1329 : decode cL_law 1329 = .ok (.aload_n 0, 1) := by decide +kernel
theorem dL_law_1330 : decode cL_law 1330 = .ok (.iload 4, 2) := by decide +kernel
theorem dL_law_1332 : decode cL_law 1332 = .ok (.iconst 1, 1) := by decide +kernel
theorem dL_law_1333 : decode cL_law 1333 = .ok (.iadd, 1) := by decide +kernel
theorem dL_law_1334 : decode cL_law 1334 = .ok (.iaload, 1) := by decide +kernel
theorem dL_law_1335 : decode cL_law 1335 = .ok (.aload_n 0, 1) := by decide +kernel
theorem dL_law_1336 : decode cL_law 1336 = .ok (.iload 4, 2) := by decide +kernel
theorem dL_law_1338 : decode cL_law 1338 = .ok (.iconst 2, 1) := by decide +kernel
theorem dL_law_1339 : decode cL_law 1339 = .ok (.iadd, 1) := by decide +kernel
theorem dL_law_1340 : decode cL_law 1340 = .ok (.iaload, 1) := by decide +kernel
theorem dL_law_1341 : decode cL_law 1341 = .ok (.invokevirtual 153, 3) := by decide +kernel
theorem dL_law_1344 : decode cL_law 1344 = .ok (.istore 6, 2) := by decide +kernel
theorem dL_law_1346 : decode cL_law 1346 = .ok (.aload_n 2, 1) := by decide +kernel
theorem dL_law_1347 : decode cL_law 1347 = .ok (.invokevirtual 84, 3) := by decide +kernel
theorem dL_law_1350 : decode cL_law 1350 = .ok (.iload 5, 2) := by decide +kernel
theorem dL_law_1352 : decode cL_law 1352 = .ok (.if_icmp .eq 5, 3) := by decide +kernel
theorem dL_law_1355 : decode cL_law 1355 = .ok (.iconst 0, 1) := by decide +kernel
theorem dL_law_1356 : decode cL_law 1356 = .ok (.ireturn, 1) := by decide +kernel
theorem dL_law_1357 : decode cL_law 1357 = .ok (.iload 5, 2) := by decide +kernel
theorem dL_law_1359 : decode cL_law 1359 = .ok (.ifCond .ne 15, 3) := by decide +kernel
theorem dL_law_1362 : decode cL_law 1362 = .ok (.aload_n 3, 1) := by decide +kernel
theorem dL_law_1363 : decode cL_law 1363 = .ok (.iconst 0, 1) := by decide +kernel
theorem dL_law_1364 : decode cL_law 1364 = .ok (.laload, 1) := by decide +kernel
theorem dL_law_1365 : decode cL_law 1365 = .ok (.iload 6, 2) := by decide +kernel
theorem dL_law_1367 : decode cL_law 1367 = .ok (.i2l, 1) := by decide +kernel
theorem dL_law_1368 : decode cL_law 1368 = .ok (.lcmp, 1) := by decide +kernel
theorem dL_law_1369 : decode cL_law 1369 = .ok (.ifCond .eq 5, 3) := by decide +kernel
theorem dL_law_1372 : decode cL_law 1372 = .ok (.iconst 0, 1) := by decide +kernel
theorem dL_law_1373 : decode cL_law 1373 = .ok (.ireturn, 1) := by decide +kernel
theorem dL_law_1374 : decode cL_law 1374 = .ok (.goto 58, 3) := by decide +kernel
theorem dL_law_1377 : decode cL_law 1377 = .ok (.aload_n 1, 1) := by decide +kernel
theorem dL_law_1378 : decode cL_law 1378 = .ok (.invokevirtual 154, 3) := by decide +kernel
theorem dL_law_1381 : decode cL_law 1381 = .ok (.dstore 5, 2) := by decide +kernel
theorem dL_law_1383 : decode cL_law 1383 = .ok (.aload_n 2, 1) := by decide +kernel
theorem dL_law_1384 : decode cL_law 1384 = .ok (.invokevirtual 158, 3) := by decide +kernel
theorem dL_law_1387 : decode cL_law 1387 = .ok (.dstore 7, 2) := by decide +kernel
theorem dL_law_1389 : decode cL_law 1389 = .ok (.dload 5, 2) := by decide +kernel
theorem dL_law_1391 : decode cL_law 1391 = .ok (.dload 7, 2) := by decide +kernel
theorem dL_law_1393 : decode cL_law 1393 = .ok (.dcmp .l, 1) := by decide +kernel
theorem dL_law_1394 : decode cL_law 1394 = .ok (.ifCond .eq 21, 3) := by decide +kernel
theorem dL_law_1397 : decode cL_law 1397 = .ok (.dload 5, 2) := by decide +kernel
theorem dL_law_1399 : decode cL_law 1399 = .ok (.dload 5, 2) := by decide +kernel
theorem dL_law_1401 : decode cL_law 1401 = .ok (.dcmp .l, 1) := by decide +kernel
theorem dL_law_1402 : decode cL_law 1402 = .ok (.ifCond .eq 11, 3) := by decide +kernel
theorem dL_law_1405 : decode cL_law 1405 = .ok (.dload 7, 2) := by decide +kernel
theorem dL_law_1407 : decode cL_law 1407 = .ok (.dload 7, 2) := by decide +kernel
theorem dL_law_1409 : decode cL_law 1409 = .ok (.dcmp .l, 1) := by decide +kernel
theorem dL_law_1410 : decode cL_law 1410 = .ok (.ifCond .ne 5, 3) := by decide +kernel
theorem dL_law_1413 : decode cL_law 1413 = .ok (.iconst 0, 1) := by decide +kernel
theorem dL_law_1414 : decode cL_law 1414 = .ok (.ireturn, 1) := by decide +kernel
theorem dL_law_1415 : decode cL_law 1415 = .ok (.goto 17, 3) := by decide +kernel
theorem dL_law_1418 : decode cL_law 1418 = .ok (.aload_n 1, 1) := by decide +kernel
theorem dL_law_1419 : decode cL_law 1419 = .ok (.invokevirtual 159, 3) := by decide +kernel
theorem dL_law_1422 : decode cL_law 1422 = .ok (.aload_n 2, 1) := by decide +kernel
theorem dL_law_1423 : decode cL_law 1423 = .ok (.invokevirtual 163, 3) := by decide +kernel
theorem dL_law_1426 : decode cL_law 1426 = .ok (.lcmp, 1) := by decide +kernel
theorem dL_law_1427 : decode cL_law 1427 = .ok (.ifCond .eq 5, 3) := by decide +kernel
theorem dL_law_1430 : decode cL_law 1430 = .ok (.iconst 0, 1) := by decide +kernel
theorem dL_law_1431 : decode cL_law 1431 = .ok (.ireturn, 1) := by decide +kernel
theorem dL_law_1432 : decode cL_law 1432 = .ok (.iinc 4 6, 3) := by decide +kernel
theorem dL_law_1435 : decode cL_law 1435 = .ok (.goto (-1412), 3) := by decide +kernel
theorem dL_law_1438 : decode cL_law 1438 = .ok (.iconst 1, 1) := by decide +kernel
theorem dL_law_1439 : decode cL_law 1439 = .ok (.ireturn, 1) := by decide +kernel
