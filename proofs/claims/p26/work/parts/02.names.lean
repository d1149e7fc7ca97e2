def RX0 : String := "CouponDesk$Coupon"
def TX0 : u_T := fun k => match k with
  | 0 => ("CouponDesk$Coupon", "kind", "I", false)
  | 1 => ("CouponDesk$Coupon", "value", "I", false)
  | 2 => ("CouponDesk$Coupon", "categories", "I", false)
  | 3 => ("CouponDesk$Coupon", "minimum", "I", false)
  | 4 => ("CouponDesk$Coupon", "group", "I", false)
  | _ => ("CouponDesk$Coupon", "uses", "I", false)
def tyX0 : Nat → FieldType := fun k => match k with
  | 0 => .int
  | 1 => .int
  | 2 => .int
  | 3 => .int
  | 4 => .int
  | _ => .int
abbrev wsX00 : List Cond := u_ws RX0 TX0 6
theorem nmX0 : ∀ a, a < 6 → ∀ b, b < 6 → a ≠ b → (TX0 a).2.1 ≠ (TX0 b).2.1 := by decide +kernel
theorem tyX0_ok : ∀ k, k < 6 → parseFieldDescriptor (TX0 k).2.2.1 = some (tyX0 k) := by decide +kernel
abbrev cX0_init : ByteArray := prog_2_method_1_code
def yX0_init : MethodName := ⟨RX0, "<init>", "()V"⟩
abbrev cX0_become : ByteArray := prog_2_method_2_code
def yX0_become : MethodName := ⟨RX0, "become", "(IIIII)V"⟩
abbrev cX0_isMatchedBy : ByteArray := prog_2_method_3_code
def yX0_isMatchedBy : MethodName := ⟨RX0, "isMatchedBy", "(I)Z"⟩
abbrev cX0_isReachedBy : ByteArray := prog_2_method_4_code
def yX0_isReachedBy : MethodName := ⟨RX0, "isReachedBy", "(LCouponDesk$Lot;)Z"⟩
abbrev cX0_isUsableFor : ByteArray := prog_2_method_5_code
def yX0_isUsableFor : MethodName := ⟨RX0, "isUsableFor", "(LCouponDesk$Lot;)Z"⟩
def RX1 : String := "CouponDesk$Lot"
def TX1 : u_T := fun k => match k with
  | 0 => ("CouponDesk$Lot", "prices", "[I", true)
  | 1 => ("CouponDesk$Lot", "categories", "[I", true)
  | _ => ("CouponDesk$Lot", "counts", "[I", true)
def tyX1 : Nat → FieldType := fun k => match k with
  | 0 => .array .int
  | 1 => .array .int
  | _ => .array .int
abbrev wsX10 : List Cond := u_ws RX1 TX1 3
theorem nmX1 : ∀ a, a < 3 → ∀ b, b < 3 → a ≠ b → (TX1 a).2.1 ≠ (TX1 b).2.1 := by decide +kernel
theorem tyX1_ok : ∀ k, k < 3 → parseFieldDescriptor (TX1 k).2.2.1 = some (tyX1 k) := by decide +kernel
abbrev cX1_init : ByteArray := prog_3_method_1_code
def yX1_init : MethodName := ⟨RX1, "<init>", "()V"⟩
abbrev cX1_pricesIn : ByteArray := prog_3_method_2_code
def yX1_pricesIn : MethodName := ⟨RX1, "pricesIn", "(I)I"⟩
abbrev cX1_countOfPieces : ByteArray := prog_3_method_3_code
def yX1_countOfPieces : MethodName := ⟨RX1, "countOfPieces", "()I"⟩
abbrev cX1_copyFrom : ByteArray := prog_3_method_4_code
def yX1_copyFrom : MethodName := ⟨RX1, "copyFrom", "(LCouponDesk$Lot;)V"⟩
abbrev cX1_removeAllPieces : ByteArray := prog_3_method_5_code
def yX1_removeAllPieces : MethodName := ⟨RX1, "removeAllPieces", "()V"⟩
def RX2 : String := "CouponDesk$Order"
def TX2 : u_T := fun k => match k with
  | 0 => ("CouponDesk$Order", "lot", "LCouponDesk$Lot;", true)
  | 1 => ("CouponDesk$Order", "acting", "I", false)
  | 2 => ("CouponDesk$Order", "fee", "I", false)
  | _ => ("CouponDesk$Order", "paid", "I", false)
def tyX2 : Nat → FieldType := fun k => match k with
  | 0 => .object "CouponDesk$Lot"
  | 1 => .int
  | 2 => .int
  | _ => .int
abbrev wsX20 : List Cond := u_ws RX2 TX2 4
theorem nmX2 : ∀ a, a < 4 → ∀ b, b < 4 → a ≠ b → (TX2 a).2.1 ≠ (TX2 b).2.1 := by decide +kernel
theorem tyX2_ok : ∀ k, k < 4 → parseFieldDescriptor (TX2 k).2.2.1 = some (tyX2 k) := by decide +kernel
abbrev cX2_init : ByteArray := prog_4_method_1_code
def yX2_init : MethodName := ⟨RX2, "<init>", "()V"⟩
abbrev cX2_become : ByteArray := prog_4_method_2_code
def yX2_become : MethodName := ⟨RX2, "become", "(LCouponDesk$Lot;III)V"⟩
abbrev cX2_tell : ByteArray := prog_4_method_3_code
def yX2_tell : MethodName := ⟨RX2, "tell", "(I)I"⟩
def RX3 : String := "CouponDesk$Search"
def TX3 : u_T := fun k => match k with
  | 0 => ("CouponDesk$Search", "leftOut", "I", false)
  | 1 => ("CouponDesk$Search", "usable", "I", false)
  | 2 => ("CouponDesk$Search", "bestSet", "I", false)
  | 3 => ("CouponDesk$Search", "leastTotal", "I", false)
  | _ => ("CouponDesk$Search", "leastWithout", "I", false)
def tyX3 : Nat → FieldType := fun k => match k with
  | 0 => .int
  | 1 => .int
  | 2 => .int
  | 3 => .int
  | _ => .int
abbrev wsX30 : List Cond := u_ws RX3 TX3 5
theorem nmX3 : ∀ a, a < 5 → ∀ b, b < 5 → a ≠ b → (TX3 a).2.1 ≠ (TX3 b).2.1 := by decide +kernel
theorem tyX3_ok : ∀ k, k < 5 → parseFieldDescriptor (TX3 k).2.2.1 = some (tyX3 k) := by decide +kernel
abbrev cX3_init : ByteArray := prog_5_method_1_code
def yX3_init : MethodName := ⟨RX3, "<init>", "()V"⟩
abbrev cX3_begin : ByteArray := prog_5_method_2_code
def yX3_begin : MethodName := ⟨RX3, "begin", "(II)V"⟩
abbrev cX3_offer : ByteArray := prog_5_method_3_code
def yX3_offer : MethodName := ⟨RX3, "offer", "(II)V"⟩
abbrev cX3_isBetter : ByteArray := prog_5_method_4_code
def yX3_isBetter : MethodName := ⟨RX3, "isBetter", "(II)Z"⟩
def RX4 : String := "CouponDesk$Tray"
def TX4 : u_T := fun k => match k with
  | 0 => ("CouponDesk$Tray", "articles", "[I", true)
  | 1 => ("CouponDesk$Tray", "categories", "[I", true)
  | 2 => ("CouponDesk$Tray", "rests", "[[I", true)
  | 3 => ("CouponDesk$Tray", "ranking", "[I", true)
  | _ => ("CouponDesk$Tray", "count", "I", false)
def tyX4 : Nat → FieldType := fun k => match k with
  | 0 => .array .int
  | 1 => .array .int
  | 2 => .array (.array .int)
  | 3 => .array .int
  | _ => .int
abbrev wsX40 : List Cond := u_ws RX4 TX4 5
theorem nmX4 : ∀ a, a < 5 → ∀ b, b < 5 → a ≠ b → (TX4 a).2.1 ≠ (TX4 b).2.1 := by decide +kernel
theorem tyX4_ok : ∀ k, k < 5 → parseFieldDescriptor (TX4 k).2.2.1 = some (tyX4 k) := by decide +kernel
abbrev cX4_init : ByteArray := prog_6_method_1_code
def yX4_init : MethodName := ⟨RX4, "<init>", "()V"⟩
abbrev cX4_lay : ByteArray := prog_6_method_2_code
def yX4_lay : MethodName := ⟨RX4, "lay", "(LCouponDesk$Lot;)V"⟩
abbrev cX4_copyRow : ByteArray := prog_6_method_3_code
def yX4_copyRow : MethodName := ⟨RX4, "copyRow", "(II)V"⟩
abbrev cX4_restsInRow : ByteArray := prog_6_method_4_code
def yX4_restsInRow : MethodName := ⟨RX4, "restsInRow", "(I)I"⟩
abbrev cX4_apply : ByteArray := prog_6_method_6_code
def yX4_apply : MethodName := ⟨RX4, "apply", "(LCouponDesk$Coupon;I)V"⟩
abbrev cX4_takePercent : ByteArray := prog_6_method_7_code
def yX4_takePercent : MethodName := ⟨RX4, "takePercent", "(LCouponDesk$Coupon;[I)V"⟩
abbrev cX4_takeAmount : ByteArray := prog_6_method_8_code
def yX4_takeAmount : MethodName := ⟨RX4, "takeAmount", "(LCouponDesk$Coupon;[I)V"⟩
abbrev cX4_matchedRests : ByteArray := prog_6_method_9_code
def yX4_matchedRests : MethodName := ⟨RX4, "matchedRests", "(LCouponDesk$Coupon;[I)I"⟩
abbrev cX4_takeOnes : ByteArray := prog_6_method_10_code
def yX4_takeOnes : MethodName := ⟨RX4, "takeOnes", "(LCouponDesk$Coupon;[II)V"⟩
abbrev cX4_takeBundles : ByteArray := prog_6_method_11_code
def yX4_takeBundles : MethodName := ⟨RX4, "takeBundles", "(LCouponDesk$Coupon;[I)V"⟩
abbrev cX4_rankMatched : ByteArray := prog_6_method_12_code
def yX4_rankMatched : MethodName := ⟨RX4, "rankMatched", "(LCouponDesk$Coupon;[I)I"⟩
def RX5 : String := "CouponDesk"
def TX5 : u_T := fun k => match k with
  | 0 => ("CouponDesk", "basket", "LCouponDesk$Lot;", true)
  | 1 => ("CouponDesk", "coupons", "[LCouponDesk$Coupon;", true)
  | 2 => ("CouponDesk", "orders", "[LCouponDesk$Order;", true)
  | 3 => ("CouponDesk", "tray", "LCouponDesk$Tray;", true)
  | 4 => ("CouponDesk", "search", "LCouponDesk$Search;", true)
  | 5 => ("CouponDesk", "articleCount", "I", false)
  | 6 => ("CouponDesk", "couponCount", "I", false)
  | 7 => ("CouponDesk", "orderCount", "I", false)
  | 8 => ("CouponDesk", "fee", "I", false)
  | _ => ("CouponDesk", "limit", "I", false)
def tyX5 : Nat → FieldType := fun k => match k with
  | 0 => .object "CouponDesk$Lot"
  | 1 => .array (.object "CouponDesk$Coupon")
  | 2 => .array (.object "CouponDesk$Order")
  | 3 => .object "CouponDesk$Tray"
  | 4 => .object "CouponDesk$Search"
  | 5 => .int
  | 6 => .int
  | 7 => .int
  | 8 => .int
  | _ => .int
abbrev wsX50 : List Cond := u_ws RX5 TX5 10
theorem nmX5 : ∀ a, a < 10 → ∀ b, b < 10 → a ≠ b → (TX5 a).2.1 ≠ (TX5 b).2.1 := by decide +kernel
theorem tyX5_ok : ∀ k, k < 10 → parseFieldDescriptor (TX5 k).2.2.1 = some (tyX5 k) := by decide +kernel
abbrev cX5_init : ByteArray := prog_1_method_1_code
def yX5_init : MethodName := ⟨RX5, "<init>", "()V"⟩
abbrev cX5_addArticle : ByteArray := prog_1_method_2_code
def yX5_addArticle : MethodName := ⟨RX5, "addArticle", "(II)I"⟩
abbrev cX5_put : ByteArray := prog_1_method_4_code
def yX5_put : MethodName := ⟨RX5, "put", "(II)I"⟩
abbrev cX5_value : ByteArray := prog_1_method_5_code
def yX5_value : MethodName := ⟨RX5, "value", "()I"⟩
abbrev cX5_setShipping : ByteArray := prog_1_method_6_code
def yX5_setShipping : MethodName := ⟨RX5, "setShipping", "(II)I"⟩
abbrev cX5_addCoupon : ByteArray := prog_1_method_7_code
def yX5_addCoupon : MethodName := ⟨RX5, "addCoupon", "(IIIII)I"⟩
abbrev cX5_isAllowed : ByteArray := prog_1_method_12_code
def yX5_isAllowed : MethodName := ⟨RX5, "isAllowed", "(I)Z"⟩
abbrev cX5_goods : ByteArray := prog_1_method_13_code
def yX5_goods : MethodName := ⟨RX5, "goods", "(I)I"⟩
abbrev cX5_total : ByteArray := prog_1_method_14_code
def yX5_total : MethodName := ⟨RX5, "total", "(I)I"⟩
abbrev cX5_best : ByteArray := prog_1_method_16_code
def yX5_best : MethodName := ⟨RX5, "best", "()I"⟩
abbrev cX5_buy : ByteArray := prog_1_method_18_code
def yX5_buy : MethodName := ⟨RX5, "buy", "(I)I"⟩
abbrev cX5_giveBack : ByteArray := prog_1_method_19_code
def yX5_giveBack : MethodName := ⟨RX5, "giveBack", "(III)I"⟩
abbrev cX5_order : ByteArray := prog_1_method_21_code
def yX5_order : MethodName := ⟨RX5, "order", "(II)I"⟩
abbrev cX5_pieces : ByteArray := prog_1_method_22_code
def yX5_pieces : MethodName := ⟨RX5, "pieces", "(II)I"⟩
abbrev cX5_needArticle : ByteArray := prog_1_method_25_code
def yX5_needArticle : MethodName := ⟨RX5, "needArticle", "(I)V"⟩
abbrev cX5_needOrder : ByteArray := prog_1_method_27_code
def yX5_needOrder : MethodName := ⟨RX5, "needOrder", "(I)V"⟩
abbrev cX5_needPrice : ByteArray := prog_1_method_28_code
def yX5_needPrice : MethodName := ⟨RX5, "needPrice", "(I)V"⟩
abbrev cX5_needCoupons : ByteArray := prog_1_method_29_code
def yX5_needCoupons : MethodName := ⟨RX5, "needCoupons", "(I)V"⟩
abbrev cX5_needAllowed : ByteArray := prog_1_method_30_code
def yX5_needAllowed : MethodName := ⟨RX5, "needAllowed", "(I)V"⟩
abbrev cX5_isValueOfKind : ByteArray := prog_1_method_31_code
def yX5_isValueOfKind : MethodName := ⟨RX5, "isValueOfKind", "(II)Z"⟩
abbrev cX5_contains : ByteArray := prog_1_method_32_code
def yX5_contains : MethodName := ⟨RX5, "contains", "(II)Z"⟩
abbrev cX5_isSetAllowed : ByteArray := prog_1_method_33_code
def yX5_isSetAllowed : MethodName := ⟨RX5, "isSetAllowed", "(I)Z"⟩
abbrev cX5_isGroupFree : ByteArray := prog_1_method_34_code
def yX5_isGroupFree : MethodName := ⟨RX5, "isGroupFree", "(II)Z"⟩
abbrev cX5_usableForBasket : ByteArray := prog_1_method_35_code
def yX5_usableForBasket : MethodName := ⟨RX5, "usableForBasket", "()I"⟩
abbrev cX5_stillReached : ByteArray := prog_1_method_36_code
def yX5_stillReached : MethodName := ⟨RX5, "stillReached", "(LCouponDesk$Order;)I"⟩
abbrev cX5_useUp : ByteArray := prog_1_method_37_code
def yX5_useUp : MethodName := ⟨RX5, "useUp", "(I)V"⟩
abbrev cX5_layAndApply : ByteArray := prog_1_method_38_code
def yX5_layAndApply : MethodName := ⟨RX5, "layAndApply", "(LCouponDesk$Lot;I)V"⟩
abbrev cX5_goodsOf : ByteArray := prog_1_method_39_code
def yX5_goodsOf : MethodName := ⟨RX5, "goodsOf", "(LCouponDesk$Lot;I)I"⟩
abbrev cX5_feeFor : ByteArray := prog_1_method_40_code
def yX5_feeFor : MethodName := ⟨RX5, "feeFor", "(II)I"⟩
abbrev cX5_hasFreight : ByteArray := prog_1_method_41_code
def yX5_hasFreight : MethodName := ⟨RX5, "hasFreight", "(I)Z"⟩
abbrev cX5_searchSets : ByteArray := prog_1_method_42_code
def yX5_searchSets : MethodName := ⟨RX5, "searchSets", "(I)V"⟩
abbrev cX5_extend : ByteArray := prog_1_method_43_code
def yX5_extend : MethodName := ⟨RX5, "extend", "(LCouponDesk;III)V"⟩
def RX6 : String := "CouponDeskModel"
def TX6 : u_T := fun k => match k with
  | _ => ("", "", "", false)
def tyX6 : Nat → FieldType := fun k => match k with
  | _ => .int
abbrev wsX60 : List Cond := u_ws RX6 TX6 0
theorem nmX6 : ∀ a, a < 0 → ∀ b, b < 0 → a ≠ b → (TX6 a).2.1 ≠ (TX6 b).2.1 := by decide +kernel
theorem tyX6_ok : ∀ k, k < 0 → parseFieldDescriptor (TX6 k).2.2.1 = some (tyX6 k) := by decide +kernel
def RJx145de : String := "java/io/Serializable"
def TJx145de : u_T := fun k => match k with
  | _ => ("", "", "", false)
def tyJx145de : Nat → FieldType := fun k => match k with
  | _ => .int
theorem nmJx145de : ∀ a, a < 0 → ∀ b, b < 0 → a ≠ b → (TJx145de a).2.1 ≠ (TJx145de b).2.1 := by decide +kernel
theorem tyJx145de_ok : ∀ k, k < 0 → parseFieldDescriptor (TJx145de k).2.2.1 = some (tyJx145de k) := by decide +kernel
def RJ6 : String := "java/lang/Integer"
def TJ6 : u_T := fun k => match k with
  | _ => ("", "", "", false)
def tyJ6 : Nat → FieldType := fun k => match k with
  | _ => .int
abbrev wsJ60 : List Cond := u_ws RJ6 TJ6 0
theorem nmJ6 : ∀ a, a < 0 → ∀ b, b < 0 → a ≠ b → (TJ6 a).2.1 ≠ (TJ6 b).2.1 := by decide +kernel
theorem tyJ6_ok : ∀ k, k < 0 → parseFieldDescriptor (TJ6 k).2.2.1 = some (tyJ6 k) := by decide +kernel
abbrev cJ6_bitCount_0f7a4 : ByteArray := prog_13_method_49_code
def yJ6_bitCount_0f7a4 : MethodName := ⟨RJ6, "bitCount", "(I)I"⟩
def RJ9 : String := "java/lang/Math"
def TJ9 : u_T := fun k => match k with
  | _ => ("", "", "", false)
def tyJ9 : Nat → FieldType := fun k => match k with
  | _ => .int
abbrev wsJ90 : List Cond := u_ws RJ9 TJ9 0
theorem nmJ9 : ∀ a, a < 0 → ∀ b, b < 0 → a ≠ b → (TJ9 a).2.1 ≠ (TJ9 b).2.1 := by decide +kernel
theorem tyJ9_ok : ∀ k, k < 0 → parseFieldDescriptor (TJ9 k).2.2.1 = some (tyJ9 k) := by decide +kernel
abbrev cJ9_min_7cf53 : ByteArray := prog_14_method_69_code
def yJ9_min_7cf53 : MethodName := ⟨RJ9, "min", "(II)I"⟩
def RJ0 : String := "java/lang/String"
def TJ0 : u_T := fun k => match k with
  | _ => ("", "", "", false)
def tyJ0 : Nat → FieldType := fun k => match k with
  | _ => .int
abbrev wsJ00 : List Cond := u_ws RJ0 TJ0 0
theorem nmJ0 : ∀ a, a < 0 → ∀ b, b < 0 → a ≠ b → (TJ0 a).2.1 ≠ (TJ0 b).2.1 := by decide +kernel
theorem tyJ0_ok : ∀ k, k < 0 → parseFieldDescriptor (TJ0 k).2.2.1 = some (tyJ0 k) := by decide +kernel
def RJ10 : String := "java/lang/System"
def TJ10 : u_T := fun k => match k with
  | _ => ("", "", "", false)
def tyJ10 : Nat → FieldType := fun k => match k with
  | _ => .int
abbrev wsJ100 : List Cond := u_ws RJ10 TJ10 0
theorem nmJ10 : ∀ a, a < 0 → ∀ b, b < 0 → a ≠ b → (TJ10 a).2.1 ≠ (TJ10 b).2.1 := by decide +kernel
theorem tyJ10_ok : ∀ k, k < 0 → parseFieldDescriptor (TJ10 k).2.2.1 = some (tyJ10 k) := by decide +kernel
def RJ7 : String := "java/util/Arrays"
def TJ7 : u_T := fun k => match k with
  | _ => ("", "", "", false)
def tyJ7 : Nat → FieldType := fun k => match k with
  | _ => .int
abbrev wsJ70 : List Cond := u_ws RJ7 TJ7 0
theorem nmJ7 : ∀ a, a < 0 → ∀ b, b < 0 → a ≠ b → (TJ7 a).2.1 ≠ (TJ7 b).2.1 := by decide +kernel
theorem tyJ7_ok : ∀ k, k < 0 → parseFieldDescriptor (TJ7 k).2.2.1 = some (tyJ7 k) := by decide +kernel
abbrev cJ7_fill_53178 : ByteArray := prog_19_method_103_code
def yJ7_fill_53178 : MethodName := ⟨RJ7, "fill", "([II)V"⟩
def RL : String := "CouponDeskLaw"
abbrev cL_below : ByteArray := method_2_code
def yL_below : MethodName := ⟨RL, "below", "(II)I"⟩
abbrev cL_cell : ByteArray := method_3_code
def yL_cell : MethodName := ⟨RL, "cell", "([II)I"⟩
abbrev cL_build : ByteArray := method_4_code
def yL_build : MethodName := ⟨RL, "build", "(LCouponDesk;[IIII[I[I)[I"⟩
abbrev cL_law : ByteArray := code
def yL_law : MethodName := ⟨RL, "law", "([I)Z"⟩
theorem dX0_init_0 : decode cX0_init 0 = .ok (.aload_n 0, 1) := by decide +kernel
theorem dX0_init_1 : decode cX0_init 1 = .ok (.invokespecial 3, 3) := by decide +kernel
theorem dX0_init_4 : decode cX0_init 4 = .ok (.aload_n 0, 1) := by decide +kernel
theorem dX0_init_5 : decode cX0_init 5 = .ok (.iconst 0, 1) := by decide +kernel
theorem dX0_init_6 : decode cX0_init 6 = .ok (.putfield 9, 3) := by decide +kernel
theorem dX0_init_9 : decode cX0_init 9 = .ok (.aload_n 0, 1) := by decide +kernel
theorem dX0_init_10 : decode cX0_init 10 = .ok (.iconst 0, 1) := by decide +kernel
theorem dX0_init_11 : decode cX0_init 11 = .ok (.putfield 15, 3) := by decide +kernel
theorem dX0_init_14 : decode cX0_init 14 = .ok (.aload_n 0, 1) := by decide +kernel
theorem dX0_init_15 : decode cX0_init 15 = .ok (.iconst 0, 1) := by decide +kernel
theorem dX0_init_16 : decode cX0_init 16 = .ok (.putfield 18, 3) := by decide +kernel
theorem dX0_init_19 : decode cX0_init 19 = .ok (.aload_n 0, 1) := by decide +kernel
theorem dX0_init_20 : decode cX0_init 20 = .ok (.iconst 0, 1) := by decide +kernel
theorem dX0_init_21 : decode cX0_init 21 = .ok (.putfield 21, 3) := by decide +kernel
theorem dX0_init_24 : decode cX0_init 24 = .ok (.aload_n 0, 1) := by decide +kernel
theorem dX0_init_25 : decode cX0_init 25 = .ok (.iconst 0, 1) := by decide +kernel
theorem dX0_init_26 : decode cX0_init 26 = .ok (.putfield 24, 3) := by decide +kernel
theorem dX0_init_29 : decode cX0_init 29 = .ok (.aload_n 0, 1) := by decide +kernel
theorem dX0_init_30 : decode cX0_init 30 = .ok (.iconst 0, 1) := by decide +kernel
theorem dX0_init_31 : decode cX0_init 31 = .ok (.putfield 27, 3) := by decide +kernel
theorem dX0_init_34 : decode cX0_init 34 = .ok (.return_, 1) := by decide +kernel
theorem dX0_become_0 : decode cX0_become 0 = .ok (.aload_n 0, 1) := by decide +kernel
theorem dX0_become_1 : decode cX0_become 1 = .ok (.iload_n 1, 1) := by decide +kernel
theorem dX0_become_2 : decode cX0_become 2 = .ok (.putfield 9, 3) := by decide +kernel
theorem dX0_become_5 : decode cX0_become 5 = .ok (.aload_n 0, 1) := by decide +kernel
theorem dX0_become_6 : decode cX0_become 6 = .ok (.iload_n 2, 1) := by decide +kernel
theorem dX0_become_7 : decode cX0_become 7 = .ok (.putfield 15, 3) := by decide +kernel
theorem dX0_become_10 : decode cX0_become 10 = .ok (.aload_n 0, 1) := by decide +kernel
theorem dX0_become_11 : decode cX0_become 11 = .ok (.iload_n 3, 1) := by decide +kernel
theorem dX0_become_12 : decode cX0_become 12 = .ok (.putfield 18, 3) := by decide +kernel
theorem dX0_become_15 : decode cX0_become 15 = .ok (.aload_n 0, 1) := by decide +kernel
theorem dX0_become_16 : decode cX0_become 16 = .ok (.iload 4, 2) := by decide +kernel
theorem dX0_become_18 : decode cX0_become 18 = .ok (.putfield 21, 3) := by decide +kernel
theorem dX0_become_21 : decode cX0_become 21 = .ok (.aload_n 0, 1) := by decide +kernel
theorem dX0_become_22 : decode cX0_become 22 = .ok (.iload 5, 2) := by decide +kernel
theorem dX0_become_24 : decode cX0_become 24 = .ok (.putfield 24, 3) := by decide +kernel
theorem dX0_become_27 : decode cX0_become 27 = .ok (.aload_n 0, 1) := by decide +kernel
theorem dX0_become_28 : decode cX0_become 28 = .ok (.bipush 9, 2) := by decide +kernel
theorem dX0_become_30 : decode cX0_become 30 = .ok (.putfield 27, 3) := by decide +kernel
theorem dX0_become_33 : decode cX0_become 33 = .ok (.return_, 1) := by decide +kernel
theorem dX0_isMatchedBy_0 : decode cX0_isMatchedBy 0 = .ok (.aload_n 0, 1) := by decide +kernel
theorem dX0_isMatchedBy_1 : decode cX0_isMatchedBy 1 = .ok (.getfield 18, 3) := by decide +kernel
theorem dX0_isMatchedBy_4 : decode cX0_isMatchedBy 4 = .ok (.iload_n 1, 1) := by decide +kernel
theorem dX0_isMatchedBy_5 : decode cX0_isMatchedBy 5 = .ok (.ishr, 1) := by decide +kernel
theorem dX0_isMatchedBy_6 : decode cX0_isMatchedBy 6 = .ok (.iconst 1, 1) := by decide +kernel
theorem dX0_isMatchedBy_7 : decode cX0_isMatchedBy 7 = .ok (.iand, 1) := by decide +kernel
theorem dX0_isMatchedBy_8 : decode cX0_isMatchedBy 8 = .ok (.ifCond .eq 7, 3) := by decide +kernel
theorem dX0_isMatchedBy_11 : decode cX0_isMatchedBy 11 = .ok (.iconst 1, 1) := by decide +kernel
theorem dX0_isMatchedBy_12 : decode cX0_isMatchedBy 12 = .ok (.goto 4, 3) := by decide +kernel
theorem dX0_isMatchedBy_15 : decode cX0_isMatchedBy 15 = .ok (.iconst 0, 1) := by decide +kernel
theorem dX0_isMatchedBy_16 : decode cX0_isMatchedBy 16 = .ok (.ireturn, 1) := by decide +kernel
theorem dX0_isReachedBy_0 : decode cX0_isReachedBy 0 = .ok (.aload_n 1, 1) := by decide +kernel
theorem dX0_isReachedBy_1 : decode cX0_isReachedBy 1 = .ok (.aload_n 0, 1) := by decide +kernel
theorem dX0_isReachedBy_2 : decode cX0_isReachedBy 2 = .ok (.getfield 18, 3) := by decide +kernel
theorem dX0_isReachedBy_5 : decode cX0_isReachedBy 5 = .ok (.invokevirtual 30, 3) := by decide +kernel
theorem dX0_isReachedBy_8 : decode cX0_isReachedBy 8 = .ok (.istore_n 2, 1) := by decide +kernel
theorem dX0_isReachedBy_9 : decode cX0_isReachedBy 9 = .ok (.iload_n 2, 1) := by decide +kernel
theorem dX0_isReachedBy_10 : decode cX0_isReachedBy 10 = .ok (.ifCond .le 15, 3) := by decide +kernel
theorem dX0_isReachedBy_13 : decode cX0_isReachedBy 13 = .ok (.iload_n 2, 1) := by decide +kernel
theorem dX0_isReachedBy_14 : decode cX0_isReachedBy 14 = .ok (.aload_n 0, 1) := by decide +kernel
theorem dX0_isReachedBy_15 : decode cX0_isReachedBy 15 = .ok (.getfield 21, 3) := by decide +kernel
theorem dX0_isReachedBy_18 : decode cX0_isReachedBy 18 = .ok (.if_icmp .lt 7, 3) := by decide +kernel
theorem dX0_isReachedBy_21 : decode cX0_isReachedBy 21 = .ok (.iconst 1, 1) := by decide +kernel
theorem dX0_isReachedBy_22 : decode cX0_isReachedBy 22 = .ok (.goto 4, 3) := by decide +kernel
theorem dX0_isReachedBy_25 : decode cX0_isReachedBy 25 = .ok (.iconst 0, 1) := by decide +kernel
theorem dX0_isReachedBy_26 : decode cX0_isReachedBy 26 = .ok (.ireturn, 1) := by decide +kernel
theorem dX0_isUsableFor_0 : decode cX0_isUsableFor 0 = .ok (.aload_n 0, 1) := by decide +kernel
theorem dX0_isUsableFor_1 : decode cX0_isUsableFor 1 = .ok (.getfield 27, 3) := by decide +kernel
theorem dX0_isUsableFor_4 : decode cX0_isUsableFor 4 = .ok (.ifCond .le 15, 3) := by decide +kernel
theorem dX0_isUsableFor_7 : decode cX0_isUsableFor 7 = .ok (.aload_n 0, 1) := by decide +kernel
theorem dX0_isUsableFor_8 : decode cX0_isUsableFor 8 = .ok (.aload_n 1, 1) := by decide +kernel
theorem dX0_isUsableFor_9 : decode cX0_isUsableFor 9 = .ok (.invokevirtual 36, 3) := by decide +kernel
theorem dX0_isUsableFor_12 : decode cX0_isUsableFor 12 = .ok (.ifCond .eq 7, 3) := by decide +kernel
theorem dX0_isUsableFor_15 : decode cX0_isUsableFor 15 = .ok (.iconst 1, 1) := by decide +kernel
theorem dX0_isUsableFor_16 : decode cX0_isUsableFor 16 = .ok (.goto 4, 3) := by decide +kernel
theorem dX0_isUsableFor_19 : decode cX0_isUsableFor 19 = .ok (.iconst 0, 1) := by decide +kernel
theorem dX0_isUsableFor_20 : decode cX0_isUsableFor 20 = .ok (.ireturn, 1) := by decide +kernel
theorem dX1_init_0 : decode cX1_init 0 = .ok (.aload_n 0, 1) := by decide +kernel
theorem dX1_init_1 : decode cX1_init 1 = .ok (.invokespecial 3, 3) := by decide +kernel
theorem dX1_init_4 : decode cX1_init 4 = .ok (.aload_n 0, 1) := by decide +kernel
theorem dX1_init_5 : decode cX1_init 5 = .ok (.bipush 10, 2) := by decide +kernel
theorem dX1_init_7 : decode cX1_init 7 = .ok (.newarray .int, 2) := by decide +kernel
theorem dX1_init_9 : decode cX1_init 9 = .ok (.putfield 9, 3) := by decide +kernel
theorem dX1_init_12 : decode cX1_init 12 = .ok (.aload_n 0, 1) := by decide +kernel
theorem dX1_init_13 : decode cX1_init 13 = .ok (.bipush 10, 2) := by decide +kernel
theorem dX1_init_15 : decode cX1_init 15 = .ok (.newarray .int, 2) := by decide +kernel
theorem dX1_init_17 : decode cX1_init 17 = .ok (.putfield 15, 3) := by decide +kernel
theorem dX1_init_20 : decode cX1_init 20 = .ok (.aload_n 0, 1) := by decide +kernel
theorem dX1_init_21 : decode cX1_init 21 = .ok (.bipush 10, 2) := by decide +kernel
theorem dX1_init_23 : decode cX1_init 23 = .ok (.newarray .int, 2) := by decide +kernel
theorem dX1_init_25 : decode cX1_init 25 = .ok (.putfield 18, 3) := by decide +kernel
theorem dX1_init_28 : decode cX1_init 28 = .ok (.return_, 1) := by decide +kernel
theorem dX1_pricesIn_0 : decode cX1_pricesIn 0 = .ok (.iconst 0, 1) := by decide +kernel
theorem dX1_pricesIn_1 : decode cX1_pricesIn 1 = .ok (.istore_n 2, 1) := by decide +kernel
theorem dX1_pricesIn_2 : decode cX1_pricesIn 2 = .ok (.iconst 0, 1) := by decide +kernel
theorem dX1_pricesIn_3 : decode cX1_pricesIn 3 = .ok (.istore_n 3, 1) := by decide +kernel
theorem dX1_pricesIn_4 : decode cX1_pricesIn 4 = .ok (.iload_n 3, 1) := by decide +kernel
theorem dX1_pricesIn_5 : decode cX1_pricesIn 5 = .ok (.bipush 10, 2) := by decide +kernel
theorem dX1_pricesIn_7 : decode cX1_pricesIn 7 = .ok (.if_icmp .ge 38, 3) := by decide +kernel
theorem dX1_pricesIn_10 : decode cX1_pricesIn 10 = .ok (.iload_n 1, 1) := by decide +kernel
theorem dX1_pricesIn_11 : decode cX1_pricesIn 11 = .ok (.aload_n 0, 1) := by decide +kernel
theorem dX1_pricesIn_12 : decode cX1_pricesIn 12 = .ok (.getfield 15, 3) := by decide +kernel
theorem dX1_pricesIn_15 : decode cX1_pricesIn 15 = .ok (.iload_n 3, 1) := by decide +kernel
theorem dX1_pricesIn_16 : decode cX1_pricesIn 16 = .ok (.iaload, 1) := by decide +kernel
theorem dX1_pricesIn_17 : decode cX1_pricesIn 17 = .ok (.ishr, 1) := by decide +kernel
theorem dX1_pricesIn_18 : decode cX1_pricesIn 18 = .ok (.iconst 1, 1) := by decide +kernel
theorem dX1_pricesIn_19 : decode cX1_pricesIn 19 = .ok (.iand, 1) := by decide +kernel
theorem dX1_pricesIn_20 : decode cX1_pricesIn 20 = .ok (.ifCond .eq 19, 3) := by decide +kernel
theorem dX1_pricesIn_23 : decode cX1_pricesIn 23 = .ok (.iload_n 2, 1) := by decide +kernel
theorem dX1_pricesIn_24 : decode cX1_pricesIn 24 = .ok (.aload_n 0, 1) := by decide +kernel
theorem dX1_pricesIn_25 : decode cX1_pricesIn 25 = .ok (.getfield 9, 3) := by decide +kernel
theorem dX1_pricesIn_28 : decode cX1_pricesIn 28 = .ok (.iload_n 3, 1) := by decide +kernel
theorem dX1_pricesIn_29 : decode cX1_pricesIn 29 = .ok (.iaload, 1) := by decide +kernel
theorem dX1_pricesIn_30 : decode cX1_pricesIn 30 = .ok (.aload_n 0, 1) := by decide +kernel
theorem dX1_pricesIn_31 : decode cX1_pricesIn 31 = .ok (.getfield 18, 3) := by decide +kernel
theorem dX1_pricesIn_34 : decode cX1_pricesIn 34 = .ok (.iload_n 3, 1) := by decide +kernel
theorem dX1_pricesIn_35 : decode cX1_pricesIn 35 = .ok (.iaload, 1) := by decide +kernel
theorem dX1_pricesIn_36 : decode cX1_pricesIn 36 = .ok (.imul, 1) := by decide +kernel
theorem dX1_pricesIn_37 : decode cX1_pricesIn 37 = .ok (.iadd, 1) := by decide +kernel
theorem dX1_pricesIn_38 : decode cX1_pricesIn 38 = .ok (.istore_n 2, 1) := by decide +kernel
theorem dX1_pricesIn_39 : decode cX1_pricesIn 39 = .ok (.iinc 3 1, 3) := by decide +kernel
theorem dX1_pricesIn_42 : decode cX1_pricesIn 42 = .ok (.goto (-38), 3) := by decide +kernel
theorem dX1_pricesIn_45 : decode cX1_pricesIn 45 = .ok (.iload_n 2, 1) := by decide +kernel
theorem dX1_pricesIn_46 : decode cX1_pricesIn 46 = .ok (.ireturn, 1) := by decide +kernel
theorem dX1_countOfPieces_0 : decode cX1_countOfPieces 0 = .ok (.iconst 0, 1) := by decide +kernel
theorem dX1_countOfPieces_1 : decode cX1_countOfPieces 1 = .ok (.istore_n 1, 1) := by decide +kernel
theorem dX1_countOfPieces_2 : decode cX1_countOfPieces 2 = .ok (.iconst 0, 1) := by decide +kernel
theorem dX1_countOfPieces_3 : decode cX1_countOfPieces 3 = .ok (.istore_n 2, 1) := by decide +kernel
theorem dX1_countOfPieces_4 : decode cX1_countOfPieces 4 = .ok (.iload_n 2, 1) := by decide +kernel
theorem dX1_countOfPieces_5 : decode cX1_countOfPieces 5 = .ok (.bipush 10, 2) := by decide +kernel
theorem dX1_countOfPieces_7 : decode cX1_countOfPieces 7 = .ok (.if_icmp .ge 18, 3) := by decide +kernel
theorem dX1_countOfPieces_10 : decode cX1_countOfPieces 10 = .ok (.iload_n 1, 1) := by decide +kernel
theorem dX1_countOfPieces_11 : decode cX1_countOfPieces 11 = .ok (.aload_n 0, 1) := by decide +kernel
theorem dX1_countOfPieces_12 : decode cX1_countOfPieces 12 = .ok (.getfield 18, 3) := by decide +kernel
theorem dX1_countOfPieces_15 : decode cX1_countOfPieces 15 = .ok (.iload_n 2, 1) := by decide +kernel
theorem dX1_countOfPieces_16 : decode cX1_countOfPieces 16 = .ok (.iaload, 1) := by decide +kernel
theorem dX1_countOfPieces_17 : decode cX1_countOfPieces 17 = .ok (.iadd, 1) := by decide +kernel
theorem dX1_countOfPieces_18 : decode cX1_countOfPieces 18 = .ok (.istore_n 1, 1) := by decide +kernel
theorem dX1_countOfPieces_19 : decode cX1_countOfPieces 19 = .ok (.iinc 2 1, 3) := by decide +kernel
theorem dX1_countOfPieces_22 : decode cX1_countOfPieces 22 = .ok (.goto (-18), 3) := by decide +kernel
theorem dX1_countOfPieces_25 : decode cX1_countOfPieces 25 = .ok (.iload_n 1, 1) := by decide +kernel
theorem dX1_countOfPieces_26 : decode cX1_countOfPieces 26 = .ok (.ireturn, 1) := by decide +kernel
theorem dX1_copyFrom_0 : decode cX1_copyFrom 0 = .ok (.aload_n 1, 1) := by decide +kernel
theorem dX1_copyFrom_1 : decode cX1_copyFrom 1 = .ok (.getfield 9, 3) := by decide +kernel
theorem dX1_copyFrom_4 : decode cX1_copyFrom 4 = .ok (.iconst 0, 1) := by decide +kernel
theorem dX1_copyFrom_5 : decode cX1_copyFrom 5 = .ok (.aload_n 0, 1) := by decide +kernel
theorem dX1_copyFrom_6 : decode cX1_copyFrom 6 = .ok (.getfield 9, 3) := by decide +kernel
theorem dX1_copyFrom_9 : decode cX1_copyFrom 9 = .ok (.iconst 0, 1) := by decide +kernel
theorem dX1_copyFrom_10 : decode cX1_copyFrom 10 = .ok (.bipush 10, 2) := by decide +kernel
theorem dX1_copyFrom_12 : decode cX1_copyFrom 12 = .ok (.invokestatic 21, 3) := by decide +kernel
theorem dX1_copyFrom_15 : decode cX1_copyFrom 15 = .ok (.aload_n 1, 1) := by decide +kernel
theorem dX1_copyFrom_16 : decode cX1_copyFrom 16 = .ok (.getfield 15, 3) := by decide +kernel
theorem dX1_copyFrom_19 : decode cX1_copyFrom 19 = .ok (.iconst 0, 1) := by decide +kernel
theorem dX1_copyFrom_20 : decode cX1_copyFrom 20 = .ok (.aload_n 0, 1) := by decide +kernel
theorem dX1_copyFrom_21 : decode cX1_copyFrom 21 = .ok (.getfield 15, 3) := by decide +kernel
theorem dX1_copyFrom_24 : decode cX1_copyFrom 24 = .ok (.iconst 0, 1) := by decide +kernel
theorem dX1_copyFrom_25 : decode cX1_copyFrom 25 = .ok (.bipush 10, 2) := by decide +kernel
theorem dX1_copyFrom_27 : decode cX1_copyFrom 27 = .ok (.invokestatic 21, 3) := by decide +kernel
theorem dX1_copyFrom_30 : decode cX1_copyFrom 30 = .ok (.aload_n 1, 1) := by decide +kernel
theorem dX1_copyFrom_31 : decode cX1_copyFrom 31 = .ok (.getfield 18, 3) := by decide +kernel
theorem dX1_copyFrom_34 : decode cX1_copyFrom 34 = .ok (.iconst 0, 1) := by decide +kernel
theorem dX1_copyFrom_35 : decode cX1_copyFrom 35 = .ok (.aload_n 0, 1) := by decide +kernel
theorem dX1_copyFrom_36 : decode cX1_copyFrom 36 = .ok (.getfield 18, 3) := by decide +kernel
theorem dX1_copyFrom_39 : decode cX1_copyFrom 39 = .ok (.iconst 0, 1) := by decide +kernel
theorem dX1_copyFrom_40 : decode cX1_copyFrom 40 = .ok (.bipush 10, 2) := by decide +kernel
theorem dX1_copyFrom_42 : decode cX1_copyFrom 42 = .ok (.invokestatic 21, 3) := by decide +kernel
theorem dX1_copyFrom_45 : decode cX1_copyFrom 45 = .ok (.return_, 1) := by decide +kernel
theorem dX1_removeAllPieces_0 : decode cX1_removeAllPieces 0 = .ok (.aload_n 0, 1) := by decide +kernel
theorem dX1_removeAllPieces_1 : decode cX1_removeAllPieces 1 = .ok (.getfield 18, 3) := by decide +kernel
theorem dX1_removeAllPieces_4 : decode cX1_removeAllPieces 4 = .ok (.iconst 0, 1) := by decide +kernel
theorem dX1_removeAllPieces_5 : decode cX1_removeAllPieces 5 = .ok (.invokestatic 27, 3) := by decide +kernel
theorem dX1_removeAllPieces_8 : decode cX1_removeAllPieces 8 = .ok (.return_, 1) := by decide +kernel
theorem dX2_init_0 : decode cX2_init 0 = .ok (.aload_n 0, 1) := by decide +kernel
theorem dX2_init_1 : decode cX2_init 1 = .ok (.invokespecial 3, 3) := by decide +kernel
theorem dX2_init_4 : decode cX2_init 4 = .ok (.aload_n 0, 1) := by decide +kernel
theorem dX2_init_5 : decode cX2_init 5 = .ok (.new 9, 3) := by decide +kernel
theorem dX2_init_8 : decode cX2_init 8 = .ok (.dup, 1) := by decide +kernel
theorem dX2_init_9 : decode cX2_init 9 = .ok (.invokespecial 11, 3) := by decide +kernel
theorem dX2_init_12 : decode cX2_init 12 = .ok (.putfield 12, 3) := by decide +kernel
theorem dX2_init_15 : decode cX2_init 15 = .ok (.aload_n 0, 1) := by decide +kernel
theorem dX2_init_16 : decode cX2_init 16 = .ok (.iconst 0, 1) := by decide +kernel
theorem dX2_init_17 : decode cX2_init 17 = .ok (.putfield 18, 3) := by decide +kernel
theorem dX2_init_20 : decode cX2_init 20 = .ok (.aload_n 0, 1) := by decide +kernel
theorem dX2_init_21 : decode cX2_init 21 = .ok (.iconst 0, 1) := by decide +kernel
theorem dX2_init_22 : decode cX2_init 22 = .ok (.putfield 22, 3) := by decide +kernel
theorem dX2_init_25 : decode cX2_init 25 = .ok (.aload_n 0, 1) := by decide +kernel
theorem dX2_init_26 : decode cX2_init 26 = .ok (.iconst 0, 1) := by decide +kernel
theorem dX2_init_27 : decode cX2_init 27 = .ok (.putfield 25, 3) := by decide +kernel
theorem dX2_init_30 : decode cX2_init 30 = .ok (.return_, 1) := by decide +kernel
theorem dX2_become_0 : decode cX2_become 0 = .ok (.aload_n 0, 1) := by decide +kernel
theorem dX2_become_1 : decode cX2_become 1 = .ok (.getfield 12, 3) := by decide +kernel
theorem dX2_become_4 : decode cX2_become 4 = .ok (.aload_n 1, 1) := by decide +kernel
theorem dX2_become_5 : decode cX2_become 5 = .ok (.invokevirtual 28, 3) := by decide +kernel
theorem dX2_become_8 : decode cX2_become 8 = .ok (.aload_n 0, 1) := by decide +kernel
theorem dX2_become_9 : decode cX2_become 9 = .ok (.iload_n 2, 1) := by decide +kernel
theorem dX2_become_10 : decode cX2_become 10 = .ok (.putfield 18, 3) := by decide +kernel
theorem dX2_become_13 : decode cX2_become 13 = .ok (.aload_n 0, 1) := by decide +kernel
theorem dX2_become_14 : decode cX2_become 14 = .ok (.iload_n 3, 1) := by decide +kernel
theorem dX2_become_15 : decode cX2_become 15 = .ok (.putfield 22, 3) := by decide +kernel
theorem dX2_become_18 : decode cX2_become 18 = .ok (.aload_n 0, 1) := by decide +kernel
theorem dX2_become_19 : decode cX2_become 19 = .ok (.iload 4, 2) := by decide +kernel
theorem dX2_become_21 : decode cX2_become 21 = .ok (.putfield 25, 3) := by decide +kernel
theorem dX2_become_24 : decode cX2_become 24 = .ok (.return_, 1) := by decide +kernel
theorem dX2_tell_0 : decode cX2_tell 0 = .ok (.iload_n 1, 1) := by decide +kernel
theorem dX2_tell_1 : decode cX2_tell 1 = .ok (.tableswitch 54 0 3 #[31, 36, 41, 46], 31) := by decide +kernel
theorem dX2_tell_32 : decode cX2_tell 32 = .ok (.aload_n 0, 1) := by decide +kernel
theorem dX2_tell_33 : decode cX2_tell 33 = .ok (.getfield 25, 3) := by decide +kernel
theorem dX2_tell_36 : decode cX2_tell 36 = .ok (.ireturn, 1) := by decide +kernel
theorem dX2_tell_37 : decode cX2_tell 37 = .ok (.aload_n 0, 1) := by decide +kernel
theorem dX2_tell_38 : decode cX2_tell 38 = .ok (.getfield 22, 3) := by decide +kernel
theorem dX2_tell_41 : decode cX2_tell 41 = .ok (.ireturn, 1) := by decide +kernel
theorem dX2_tell_42 : decode cX2_tell 42 = .ok (.aload_n 0, 1) := by decide +kernel
theorem dX2_tell_43 : decode cX2_tell 43 = .ok (.getfield 18, 3) := by decide +kernel
theorem dX2_tell_46 : decode cX2_tell 46 = .ok (.ireturn, 1) := by decide +kernel
theorem dX2_tell_47 : decode cX2_tell 47 = .ok (.aload_n 0, 1) := by decide +kernel
theorem dX2_tell_48 : decode cX2_tell 48 = .ok (.getfield 12, 3) := by decide +kernel
theorem dX2_tell_51 : decode cX2_tell 51 = .ok (.invokevirtual 32, 3) := by decide +kernel
theorem dX2_tell_54 : decode cX2_tell 54 = .ok (.ireturn, 1) := by decide +kernel
theorem dX2_tell_55 : decode cX2_tell 55 = .ok (.aload_n 0, 1) := by decide +kernel
theorem dX2_tell_56 : decode cX2_tell 56 = .ok (.getfield 12, 3) := by decide +kernel
theorem dX2_tell_59 : decode cX2_tell 59 = .ok (.sipush 255, 3) := by decide +kernel
theorem dX2_tell_62 : decode cX2_tell 62 = .ok (.invokevirtual 36, 3) := by decide +kernel
theorem dX2_tell_65 : decode cX2_tell 65 = .ok (.ireturn, 1) := by decide +kernel
theorem dX3_init_0 : decode cX3_init 0 = .ok (.aload_n 0, 1) := by decide +kernel
theorem dX3_init_1 : decode cX3_init 1 = .ok (.invokespecial 3, 3) := by decide +kernel
theorem dX3_init_4 : decode cX3_init 4 = .ok (.aload_n 0, 1) := by decide +kernel
theorem dX3_init_5 : decode cX3_init 5 = .ok (.iconst 0, 1) := by decide +kernel
theorem dX3_init_6 : decode cX3_init 6 = .ok (.putfield 9, 3) := by decide +kernel
theorem dX3_init_9 : decode cX3_init 9 = .ok (.aload_n 0, 1) := by decide +kernel
theorem dX3_init_10 : decode cX3_init 10 = .ok (.iconst 0, 1) := by decide +kernel
theorem dX3_init_11 : decode cX3_init 11 = .ok (.putfield 15, 3) := by decide +kernel
theorem dX3_init_14 : decode cX3_init 14 = .ok (.aload_n 0, 1) := by decide +kernel
theorem dX3_init_15 : decode cX3_init 15 = .ok (.iconst 0, 1) := by decide +kernel
theorem dX3_init_16 : decode cX3_init 16 = .ok (.putfield 18, 3) := by decide +kernel
theorem dX3_init_19 : decode cX3_init 19 = .ok (.aload_n 0, 1) := by decide +kernel
theorem dX3_init_20 : decode cX3_init 20 = .ok (.ldc 21, 2) := by decide +kernel
theorem dX3_init_22 : decode cX3_init 22 = .ok (.putfield 22, 3) := by decide +kernel
theorem dX3_init_25 : decode cX3_init 25 = .ok (.aload_n 0, 1) := by decide +kernel
theorem dX3_init_26 : decode cX3_init 26 = .ok (.ldc 21, 2) := by decide +kernel
theorem dX3_init_28 : decode cX3_init 28 = .ok (.putfield 25, 3) := by decide +kernel
theorem dX3_init_31 : decode cX3_init 31 = .ok (.return_, 1) := by decide +kernel
theorem dX3_begin_0 : decode cX3_begin 0 = .ok (.aload_n 0, 1) := by decide +kernel
theorem dX3_begin_1 : decode cX3_begin 1 = .ok (.iload_n 1, 1) := by decide +kernel
theorem dX3_begin_2 : decode cX3_begin 2 = .ok (.putfield 9, 3) := by decide +kernel
theorem dX3_begin_5 : decode cX3_begin 5 = .ok (.aload_n 0, 1) := by decide +kernel
theorem dX3_begin_6 : decode cX3_begin 6 = .ok (.iload_n 2, 1) := by decide +kernel
theorem dX3_begin_7 : decode cX3_begin 7 = .ok (.putfield 15, 3) := by decide +kernel
theorem dX3_begin_10 : decode cX3_begin 10 = .ok (.aload_n 0, 1) := by decide +kernel
theorem dX3_begin_11 : decode cX3_begin 11 = .ok (.iconst 0, 1) := by decide +kernel
theorem dX3_begin_12 : decode cX3_begin 12 = .ok (.putfield 18, 3) := by decide +kernel
theorem dX3_begin_15 : decode cX3_begin 15 = .ok (.aload_n 0, 1) := by decide +kernel
theorem dX3_begin_16 : decode cX3_begin 16 = .ok (.ldc 21, 2) := by decide +kernel
theorem dX3_begin_18 : decode cX3_begin 18 = .ok (.putfield 22, 3) := by decide +kernel
theorem dX3_begin_21 : decode cX3_begin 21 = .ok (.aload_n 0, 1) := by decide +kernel
theorem dX3_begin_22 : decode cX3_begin 22 = .ok (.ldc 21, 2) := by decide +kernel
theorem dX3_begin_24 : decode cX3_begin 24 = .ok (.putfield 25, 3) := by decide +kernel
theorem dX3_begin_27 : decode cX3_begin 27 = .ok (.return_, 1) := by decide +kernel
theorem dX3_offer_0 : decode cX3_offer 0 = .ok (.iload_n 1, 1) := by decide +kernel
theorem dX3_offer_1 : decode cX3_offer 1 = .ok (.aload_n 0, 1) := by decide +kernel
theorem dX3_offer_2 : decode cX3_offer 2 = .ok (.getfield 9, 3) := by decide +kernel
theorem dX3_offer_5 : decode cX3_offer 5 = .ok (.iand, 1) := by decide +kernel
theorem dX3_offer_6 : decode cX3_offer 6 = .ok (.ifCond .ne 15, 3) := by decide +kernel
theorem dX3_offer_9 : decode cX3_offer 9 = .ok (.aload_n 0, 1) := by decide +kernel
theorem dX3_offer_10 : decode cX3_offer 10 = .ok (.aload_n 0, 1) := by decide +kernel
theorem dX3_offer_11 : decode cX3_offer 11 = .ok (.getfield 25, 3) := by decide +kernel
theorem dX3_offer_14 : decode cX3_offer 14 = .ok (.iload_n 2, 1) := by decide +kernel
theorem dX3_offer_15 : decode cX3_offer 15 = .ok (.invokestatic 28, 3) := by decide +kernel
theorem dX3_offer_18 : decode cX3_offer 18 = .ok (.putfield 25, 3) := by decide +kernel
theorem dX3_offer_21 : decode cX3_offer 21 = .ok (.aload_n 0, 1) := by decide +kernel
theorem dX3_offer_22 : decode cX3_offer 22 = .ok (.iload_n 1, 1) := by decide +kernel
theorem dX3_offer_23 : decode cX3_offer 23 = .ok (.iload_n 2, 1) := by decide +kernel
theorem dX3_offer_24 : decode cX3_offer 24 = .ok (.invokevirtual 34, 3) := by decide +kernel
theorem dX3_offer_27 : decode cX3_offer 27 = .ok (.ifCond .eq 13, 3) := by decide +kernel
theorem dX3_offer_30 : decode cX3_offer 30 = .ok (.aload_n 0, 1) := by decide +kernel
theorem dX3_offer_31 : decode cX3_offer 31 = .ok (.iload_n 1, 1) := by decide +kernel
theorem dX3_offer_32 : decode cX3_offer 32 = .ok (.putfield 18, 3) := by decide +kernel
theorem dX3_offer_35 : decode cX3_offer 35 = .ok (.aload_n 0, 1) := by decide +kernel
theorem dX3_offer_36 : decode cX3_offer 36 = .ok (.iload_n 2, 1) := by decide +kernel
theorem dX3_offer_37 : decode cX3_offer 37 = .ok (.putfield 22, 3) := by decide +kernel
theorem dX3_offer_40 : decode cX3_offer 40 = .ok (.return_, 1) := by decide +kernel
theorem dX3_isBetter_0 : decode cX3_isBetter 0 = .ok (.iload_n 2, 1) := by decide +kernel
theorem dX3_isBetter_1 : decode cX3_isBetter 1 = .ok (.aload_n 0, 1) := by decide +kernel
theorem dX3_isBetter_2 : decode cX3_isBetter 2 = .ok (.getfield 22, 3) := by decide +kernel
theorem dX3_isBetter_5 : decode cX3_isBetter 5 = .ok (.if_icmp .eq 17, 3) := by decide +kernel
theorem dX3_isBetter_8 : decode cX3_isBetter 8 = .ok (.iload_n 2, 1) := by decide +kernel
theorem dX3_isBetter_9 : decode cX3_isBetter 9 = .ok (.aload_n 0, 1) := by decide +kernel
theorem dX3_isBetter_10 : decode cX3_isBetter 10 = .ok (.getfield 22, 3) := by decide +kernel
theorem dX3_isBetter_13 : decode cX3_isBetter 13 = .ok (.if_icmp .ge 7, 3) := by decide +kernel
theorem dX3_isBetter_16 : decode cX3_isBetter 16 = .ok (.iconst 1, 1) := by decide +kernel
theorem dX3_isBetter_17 : decode cX3_isBetter 17 = .ok (.goto 4, 3) := by decide +kernel
theorem dX3_isBetter_20 : decode cX3_isBetter 20 = .ok (.iconst 0, 1) := by decide +kernel
theorem dX3_isBetter_21 : decode cX3_isBetter 21 = .ok (.ireturn, 1) := by decide +kernel
theorem dX3_isBetter_22 : decode cX3_isBetter 22 = .ok (.iload_n 1, 1) := by decide +kernel
theorem dX3_isBetter_23 : decode cX3_isBetter 23 = .ok (.invokestatic 38, 3) := by decide +kernel
theorem dX3_isBetter_26 : decode cX3_isBetter 26 = .ok (.aload_n 0, 1) := by decide +kernel
theorem dX3_isBetter_27 : decode cX3_isBetter 27 = .ok (.getfield 18, 3) := by decide +kernel
theorem dX3_isBetter_30 : decode cX3_isBetter 30 = .ok (.invokestatic 38, 3) := by decide +kernel
theorem dX3_isBetter_33 : decode cX3_isBetter 33 = .ok (.isub, 1) := by decide +kernel
theorem dX3_isBetter_34 : decode cX3_isBetter 34 = .ok (.istore_n 3, 1) := by decide +kernel
theorem dX3_isBetter_35 : decode cX3_isBetter 35 = .ok (.iload_n 3, 1) := by decide +kernel
theorem dX3_isBetter_36 : decode cX3_isBetter 36 = .ok (.ifCond .lt 15, 3) := by decide +kernel
theorem dX3_isBetter_39 : decode cX3_isBetter 39 = .ok (.iload_n 3, 1) := by decide +kernel
theorem dX3_isBetter_40 : decode cX3_isBetter 40 = .ok (.ifCond .ne 15, 3) := by decide +kernel
theorem dX3_isBetter_43 : decode cX3_isBetter 43 = .ok (.iload_n 1, 1) := by decide +kernel
theorem dX3_isBetter_44 : decode cX3_isBetter 44 = .ok (.aload_n 0, 1) := by decide +kernel
theorem dX3_isBetter_45 : decode cX3_isBetter 45 = .ok (.getfield 18, 3) := by decide +kernel
theorem dX3_isBetter_48 : decode cX3_isBetter 48 = .ok (.if_icmp .ge 7, 3) := by decide +kernel
theorem dX3_isBetter_51 : decode cX3_isBetter 51 = .ok (.iconst 1, 1) := by decide +kernel
theorem dX3_isBetter_52 : decode cX3_isBetter 52 = .ok (.goto 4, 3) := by decide +kernel
theorem dX3_isBetter_55 : decode cX3_isBetter 55 = .ok (.iconst 0, 1) := by decide +kernel
theorem dX3_isBetter_56 : decode cX3_isBetter 56 = .ok (.ireturn, 1) := by decide +kernel
theorem dX4_init_0 : decode cX4_init 0 = .ok (.aload_n 0, 1) := by decide +kernel
theorem dX4_init_1 : decode cX4_init 1 = .ok (.invokespecial 3, 3) := by decide +kernel
theorem dX4_init_4 : decode cX4_init 4 = .ok (.aload_n 0, 1) := by decide +kernel
theorem dX4_init_5 : decode cX4_init 5 = .ok (.bipush 60, 2) := by decide +kernel
theorem dX4_init_7 : decode cX4_init 7 = .ok (.newarray .int, 2) := by decide +kernel
theorem dX4_init_9 : decode cX4_init 9 = .ok (.putfield 9, 3) := by decide +kernel
theorem dX4_init_12 : decode cX4_init 12 = .ok (.aload_n 0, 1) := by decide +kernel
theorem dX4_init_13 : decode cX4_init 13 = .ok (.bipush 60, 2) := by decide +kernel
theorem dX4_init_15 : decode cX4_init 15 = .ok (.newarray .int, 2) := by decide +kernel
theorem dX4_init_17 : decode cX4_init 17 = .ok (.putfield 15, 3) := by decide +kernel
theorem dX4_init_20 : decode cX4_init 20 = .ok (.aload_n 0, 1) := by decide +kernel
theorem dX4_init_21 : decode cX4_init 21 = .ok (.bipush 9, 2) := by decide +kernel
theorem dX4_init_23 : decode cX4_init 23 = .ok (.bipush 60, 2) := by decide +kernel
theorem dX4_init_25 : decode cX4_init 25 = .ok (.multianewarray 18 2, 4) := by decide +kernel
theorem dX4_init_29 : decode cX4_init 29 = .ok (.putfield 20, 3) := by decide +kernel
theorem dX4_init_32 : decode cX4_init 32 = .ok (.aload_n 0, 1) := by decide +kernel
theorem dX4_init_33 : decode cX4_init 33 = .ok (.bipush 60, 2) := by decide +kernel
theorem dX4_init_35 : decode cX4_init 35 = .ok (.newarray .int, 2) := by decide +kernel
theorem dX4_init_37 : decode cX4_init 37 = .ok (.putfield 23, 3) := by decide +kernel
theorem dX4_init_40 : decode cX4_init 40 = .ok (.aload_n 0, 1) := by decide +kernel
theorem dX4_init_41 : decode cX4_init 41 = .ok (.iconst 0, 1) := by decide +kernel
theorem dX4_init_42 : decode cX4_init 42 = .ok (.putfield 26, 3) := by decide +kernel
theorem dX4_init_45 : decode cX4_init 45 = .ok (.return_, 1) := by decide +kernel
theorem dX4_lay_0 : decode cX4_lay 0 = .ok (.iconst 0, 1) := by decide +kernel
theorem dX4_lay_1 : decode cX4_lay 1 = .ok (.istore_n 2, 1) := by decide +kernel
theorem dX4_lay_2 : decode cX4_lay 2 = .ok (.iconst 0, 1) := by decide +kernel
theorem dX4_lay_3 : decode cX4_lay 3 = .ok (.istore_n 3, 1) := by decide +kernel
theorem dX4_lay_4 : decode cX4_lay 4 = .ok (.iload_n 3, 1) := by decide +kernel
theorem dX4_lay_5 : decode cX4_lay 5 = .ok (.bipush 10, 2) := by decide +kernel
theorem dX4_lay_7 : decode cX4_lay 7 = .ok (.if_icmp .ge 71, 3) := by decide +kernel
theorem dX4_lay_10 : decode cX4_lay 10 = .ok (.iconst 0, 1) := by decide +kernel
theorem dX4_lay_11 : decode cX4_lay 11 = .ok (.istore 4, 2) := by decide +kernel
theorem dX4_lay_13 : decode cX4_lay 13 = .ok (.iload 4, 2) := by decide +kernel
theorem dX4_lay_15 : decode cX4_lay 15 = .ok (.aload_n 1, 1) := by decide +kernel
theorem dX4_lay_16 : decode cX4_lay 16 = .ok (.getfield 30, 3) := by decide +kernel
theorem dX4_lay_19 : decode cX4_lay 19 = .ok (.iload_n 3, 1) := by decide +kernel
theorem dX4_lay_20 : decode cX4_lay 20 = .ok (.iaload, 1) := by decide +kernel
theorem dX4_lay_21 : decode cX4_lay 21 = .ok (.if_icmp .ge 51, 3) := by decide +kernel
theorem dX4_lay_24 : decode cX4_lay 24 = .ok (.iload_n 2, 1) := by decide +kernel
theorem dX4_lay_25 : decode cX4_lay 25 = .ok (.bipush 60, 2) := by decide +kernel
theorem dX4_lay_27 : decode cX4_lay 27 = .ok (.if_icmp .ge 45, 3) := by decide +kernel
theorem dX4_lay_30 : decode cX4_lay 30 = .ok (.aload_n 0, 1) := by decide +kernel
theorem dX4_lay_31 : decode cX4_lay 31 = .ok (.getfield 9, 3) := by decide +kernel
theorem dX4_lay_34 : decode cX4_lay 34 = .ok (.iload_n 2, 1) := by decide +kernel
theorem dX4_lay_35 : decode cX4_lay 35 = .ok (.iload_n 3, 1) := by decide +kernel
theorem dX4_lay_36 : decode cX4_lay 36 = .ok (.iastore, 1) := by decide +kernel
theorem dX4_lay_37 : decode cX4_lay 37 = .ok (.aload_n 0, 1) := by decide +kernel
theorem dX4_lay_38 : decode cX4_lay 38 = .ok (.getfield 15, 3) := by decide +kernel
theorem dX4_lay_41 : decode cX4_lay 41 = .ok (.iload_n 2, 1) := by decide +kernel
theorem dX4_lay_42 : decode cX4_lay 42 = .ok (.aload_n 1, 1) := by decide +kernel
theorem dX4_lay_43 : decode cX4_lay 43 = .ok (.getfield 35, 3) := by decide +kernel
theorem dX4_lay_46 : decode cX4_lay 46 = .ok (.iload_n 3, 1) := by decide +kernel
theorem dX4_lay_47 : decode cX4_lay 47 = .ok (.iaload, 1) := by decide +kernel
theorem dX4_lay_48 : decode cX4_lay 48 = .ok (.iastore, 1) := by decide +kernel
theorem dX4_lay_49 : decode cX4_lay 49 = .ok (.aload_n 0, 1) := by decide +kernel
theorem dX4_lay_50 : decode cX4_lay 50 = .ok (.getfield 20, 3) := by decide +kernel
theorem dX4_lay_53 : decode cX4_lay 53 = .ok (.iconst 0, 1) := by decide +kernel
theorem dX4_lay_54 : decode cX4_lay 54 = .ok (.aaload, 1) := by decide +kernel
theorem dX4_lay_55 : decode cX4_lay 55 = .ok (.iload_n 2, 1) := by decide +kernel
theorem dX4_lay_56 : decode cX4_lay 56 = .ok (.aload_n 1, 1) := by decide +kernel
theorem dX4_lay_57 : decode cX4_lay 57 = .ok (.getfield 36, 3) := by decide +kernel
theorem dX4_lay_60 : decode cX4_lay 60 = .ok (.iload_n 3, 1) := by decide +kernel
theorem dX4_lay_61 : decode cX4_lay 61 = .ok (.iaload, 1) := by decide +kernel
theorem dX4_lay_62 : decode cX4_lay 62 = .ok (.iastore, 1) := by decide +kernel
theorem dX4_lay_63 : decode cX4_lay 63 = .ok (.iinc 2 1, 3) := by decide +kernel
theorem dX4_lay_66 : decode cX4_lay 66 = .ok (.iinc 4 1, 3) := by decide +kernel
theorem dX4_lay_69 : decode cX4_lay 69 = .ok (.goto (-56), 3) := by decide +kernel
theorem dX4_lay_72 : decode cX4_lay 72 = .ok (.iinc 3 1, 3) := by decide +kernel
theorem dX4_lay_75 : decode cX4_lay 75 = .ok (.goto (-71), 3) := by decide +kernel
theorem dX4_lay_78 : decode cX4_lay 78 = .ok (.aload_n 0, 1) := by decide +kernel
theorem dX4_lay_79 : decode cX4_lay 79 = .ok (.iload_n 2, 1) := by decide +kernel
theorem dX4_lay_80 : decode cX4_lay 80 = .ok (.putfield 26, 3) := by decide +kernel
theorem dX4_lay_83 : decode cX4_lay 83 = .ok (.return_, 1) := by decide +kernel
theorem dX4_copyRow_0 : decode cX4_copyRow 0 = .ok (.aload_n 0, 1) := by decide +kernel
theorem dX4_copyRow_1 : decode cX4_copyRow 1 = .ok (.getfield 20, 3) := by decide +kernel
theorem dX4_copyRow_4 : decode cX4_copyRow 4 = .ok (.iload_n 1, 1) := by decide +kernel
theorem dX4_copyRow_5 : decode cX4_copyRow 5 = .ok (.aaload, 1) := by decide +kernel
theorem dX4_copyRow_6 : decode cX4_copyRow 6 = .ok (.iconst 0, 1) := by decide +kernel
theorem dX4_copyRow_7 : decode cX4_copyRow 7 = .ok (.aload_n 0, 1) := by decide +kernel
theorem dX4_copyRow_8 : decode cX4_copyRow 8 = .ok (.getfield 20, 3) := by decide +kernel
theorem dX4_copyRow_11 : decode cX4_copyRow 11 = .ok (.iload_n 2, 1) := by decide +kernel
theorem dX4_copyRow_12 : decode cX4_copyRow 12 = .ok (.aaload, 1) := by decide +kernel
theorem dX4_copyRow_13 : decode cX4_copyRow 13 = .ok (.iconst 0, 1) := by decide +kernel
theorem dX4_copyRow_14 : decode cX4_copyRow 14 = .ok (.aload_n 0, 1) := by decide +kernel
theorem dX4_copyRow_15 : decode cX4_copyRow 15 = .ok (.getfield 26, 3) := by decide +kernel
theorem dX4_copyRow_18 : decode cX4_copyRow 18 = .ok (.invokestatic 39, 3) := by decide +kernel
theorem dX4_copyRow_21 : decode cX4_copyRow 21 = .ok (.return_, 1) := by decide +kernel
theorem dX4_restsInRow_0 : decode cX4_restsInRow 0 = .ok (.aload_n 0, 1) := by decide +kernel
theorem dX4_restsInRow_1 : decode cX4_restsInRow 1 = .ok (.getfield 20, 3) := by decide +kernel
theorem dX4_restsInRow_4 : decode cX4_restsInRow 4 = .ok (.iload_n 1, 1) := by decide +kernel
theorem dX4_restsInRow_5 : decode cX4_restsInRow 5 = .ok (.aaload, 1) := by decide +kernel
theorem dX4_restsInRow_6 : decode cX4_restsInRow 6 = .ok (.astore_n 2, 1) := by decide +kernel
theorem dX4_restsInRow_7 : decode cX4_restsInRow 7 = .ok (.iconst 0, 1) := by decide +kernel
theorem dX4_restsInRow_8 : decode cX4_restsInRow 8 = .ok (.istore_n 3, 1) := by decide +kernel
theorem dX4_restsInRow_9 : decode cX4_restsInRow 9 = .ok (.iconst 0, 1) := by decide +kernel
theorem dX4_restsInRow_10 : decode cX4_restsInRow 10 = .ok (.istore 4, 2) := by decide +kernel
theorem dX4_restsInRow_12 : decode cX4_restsInRow 12 = .ok (.iload 4, 2) := by decide +kernel
theorem dX4_restsInRow_14 : decode cX4_restsInRow 14 = .ok (.aload_n 0, 1) := by decide +kernel
theorem dX4_restsInRow_15 : decode cX4_restsInRow 15 = .ok (.getfield 26, 3) := by decide +kernel
theorem dX4_restsInRow_18 : decode cX4_restsInRow 18 = .ok (.if_icmp .ge 16, 3) := by decide +kernel
theorem dX4_restsInRow_21 : decode cX4_restsInRow 21 = .ok (.iload_n 3, 1) := by decide +kernel
theorem dX4_restsInRow_22 : decode cX4_restsInRow 22 = .ok (.aload_n 2, 1) := by decide +kernel
theorem dX4_restsInRow_23 : decode cX4_restsInRow 23 = .ok (.iload 4, 2) := by decide +kernel
theorem dX4_restsInRow_25 : decode cX4_restsInRow 25 = .ok (.iaload, 1) := by decide +kernel
theorem dX4_restsInRow_26 : decode cX4_restsInRow 26 = .ok (.iadd, 1) := by decide +kernel
theorem dX4_restsInRow_27 : decode cX4_restsInRow 27 = .ok (.istore_n 3, 1) := by decide +kernel
theorem dX4_restsInRow_28 : decode cX4_restsInRow 28 = .ok (.iinc 4 1, 3) := by decide +kernel
theorem dX4_restsInRow_31 : decode cX4_restsInRow 31 = .ok (.goto (-19), 3) := by decide +kernel
theorem dX4_restsInRow_34 : decode cX4_restsInRow 34 = .ok (.iload_n 3, 1) := by decide +kernel
theorem dX4_restsInRow_35 : decode cX4_restsInRow 35 = .ok (.ireturn, 1) := by decide +kernel
theorem dX4_apply_0 : decode cX4_apply 0 = .ok (.aload_n 1, 1) := by decide +kernel
theorem dX4_apply_1 : decode cX4_apply 1 = .ok (.getfield 45, 3) := by decide +kernel
theorem dX4_apply_4 : decode cX4_apply 4 = .ok (.tableswitch 70 0 2 #[28, 42, 56], 28) := by decide +kernel
theorem dX4_apply_32 : decode cX4_apply 32 = .ok (.aload_n 0, 1) := by decide +kernel
theorem dX4_apply_33 : decode cX4_apply 33 = .ok (.aload_n 1, 1) := by decide +kernel
theorem dX4_apply_34 : decode cX4_apply 34 = .ok (.aload_n 0, 1) := by decide +kernel
theorem dX4_apply_35 : decode cX4_apply 35 = .ok (.getfield 20, 3) := by decide +kernel
theorem dX4_apply_38 : decode cX4_apply 38 = .ok (.iload_n 2, 1) := by decide +kernel
theorem dX4_apply_39 : decode cX4_apply 39 = .ok (.aaload, 1) := by decide +kernel
theorem dX4_apply_40 : decode cX4_apply 40 = .ok (.invokevirtual 50, 3) := by decide +kernel
theorem dX4_apply_43 : decode cX4_apply 43 = .ok (.goto 31, 3) := by decide +kernel
theorem dX4_apply_46 : decode cX4_apply 46 = .ok (.aload_n 0, 1) := by decide +kernel
theorem dX4_apply_47 : decode cX4_apply 47 = .ok (.aload_n 1, 1) := by decide +kernel
theorem dX4_apply_48 : decode cX4_apply 48 = .ok (.aload_n 0, 1) := by decide +kernel
theorem dX4_apply_49 : decode cX4_apply 49 = .ok (.getfield 20, 3) := by decide +kernel
theorem dX4_apply_52 : decode cX4_apply 52 = .ok (.iload_n 2, 1) := by decide +kernel
theorem dX4_apply_53 : decode cX4_apply 53 = .ok (.aaload, 1) := by decide +kernel
theorem dX4_apply_54 : decode cX4_apply 54 = .ok (.invokevirtual 54, 3) := by decide +kernel
theorem dX4_apply_57 : decode cX4_apply 57 = .ok (.goto 17, 3) := by decide +kernel
theorem dX4_apply_60 : decode cX4_apply 60 = .ok (.aload_n 0, 1) := by decide +kernel
theorem dX4_apply_61 : decode cX4_apply 61 = .ok (.aload_n 1, 1) := by decide +kernel
theorem dX4_apply_62 : decode cX4_apply 62 = .ok (.aload_n 0, 1) := by decide +kernel
theorem dX4_apply_63 : decode cX4_apply 63 = .ok (.getfield 20, 3) := by decide +kernel
theorem dX4_apply_66 : decode cX4_apply 66 = .ok (.iload_n 2, 1) := by decide +kernel
theorem dX4_apply_67 : decode cX4_apply 67 = .ok (.aaload, 1) := by decide +kernel
theorem dX4_apply_68 : decode cX4_apply 68 = .ok (.invokevirtual 57, 3) := by decide +kernel
theorem dX4_apply_71 : decode cX4_apply 71 = .ok (.goto 3, 3) := by decide +kernel
theorem dX4_apply_74 : decode cX4_apply 74 = .ok (.return_, 1) := by decide +kernel
theorem dX4_takePercent_0 : decode cX4_takePercent 0 = .ok (.iconst 0, 1) := by decide +kernel
theorem dX4_takePercent_1 : decode cX4_takePercent 1 = .ok (.istore_n 3, 1) := by decide +kernel
theorem dX4_takePercent_2 : decode cX4_takePercent 2 = .ok (.iload_n 3, 1) := by decide +kernel
theorem dX4_takePercent_3 : decode cX4_takePercent 3 = .ok (.aload_n 0, 1) := by decide +kernel
theorem dX4_takePercent_4 : decode cX4_takePercent 4 = .ok (.getfield 26, 3) := by decide +kernel
theorem dX4_takePercent_7 : decode cX4_takePercent 7 = .ok (.if_icmp .ge 39, 3) := by decide +kernel
theorem dX4_takePercent_10 : decode cX4_takePercent 10 = .ok (.aload_n 1, 1) := by decide +kernel
theorem dX4_takePercent_11 : decode cX4_takePercent 11 = .ok (.aload_n 0, 1) := by decide +kernel
theorem dX4_takePercent_12 : decode cX4_takePercent 12 = .ok (.getfield 15, 3) := by decide +kernel
theorem dX4_takePercent_15 : decode cX4_takePercent 15 = .ok (.iload_n 3, 1) := by decide +kernel
theorem dX4_takePercent_16 : decode cX4_takePercent 16 = .ok (.iaload, 1) := by decide +kernel
theorem dX4_takePercent_17 : decode cX4_takePercent 17 = .ok (.invokevirtual 60, 3) := by decide +kernel
theorem dX4_takePercent_20 : decode cX4_takePercent 20 = .ok (.ifCond .eq 20, 3) := by decide +kernel
theorem dX4_takePercent_23 : decode cX4_takePercent 23 = .ok (.aload_n 2, 1) := by decide +kernel
theorem dX4_takePercent_24 : decode cX4_takePercent 24 = .ok (.iload_n 3, 1) := by decide +kernel
theorem dX4_takePercent_25 : decode cX4_takePercent 25 = .ok (.dup2, 1) := by decide +kernel
theorem dX4_takePercent_26 : decode cX4_takePercent 26 = .ok (.iaload, 1) := by decide +kernel
theorem dX4_takePercent_27 : decode cX4_takePercent 27 = .ok (.aload_n 2, 1) := by decide +kernel
theorem dX4_takePercent_28 : decode cX4_takePercent 28 = .ok (.iload_n 3, 1) := by decide +kernel
theorem dX4_takePercent_29 : decode cX4_takePercent 29 = .ok (.iaload, 1) := by decide +kernel
theorem dX4_takePercent_30 : decode cX4_takePercent 30 = .ok (.aload_n 1, 1) := by decide +kernel
theorem dX4_takePercent_31 : decode cX4_takePercent 31 = .ok (.getfield 64, 3) := by decide +kernel
theorem dX4_takePercent_34 : decode cX4_takePercent 34 = .ok (.imul, 1) := by decide +kernel
theorem dX4_takePercent_35 : decode cX4_takePercent 35 = .ok (.bipush 100, 2) := by decide +kernel
theorem dX4_takePercent_37 : decode cX4_takePercent 37 = .ok (.idiv, 1) := by decide +kernel
theorem dX4_takePercent_38 : decode cX4_takePercent 38 = .ok (.isub, 1) := by decide +kernel
theorem dX4_takePercent_39 : decode cX4_takePercent 39 = .ok (.iastore, 1) := by decide +kernel
theorem dX4_takePercent_40 : decode cX4_takePercent 40 = .ok (.iinc 3 1, 3) := by decide +kernel
theorem dX4_takePercent_43 : decode cX4_takePercent 43 = .ok (.goto (-41), 3) := by decide +kernel
theorem dX4_takePercent_46 : decode cX4_takePercent 46 = .ok (.return_, 1) := by decide +kernel
theorem dX4_takeAmount_0 : decode cX4_takeAmount 0 = .ok (.aload_n 0, 1) := by decide +kernel
theorem dX4_takeAmount_1 : decode cX4_takeAmount 1 = .ok (.aload_n 1, 1) := by decide +kernel
theorem dX4_takeAmount_2 : decode cX4_takeAmount 2 = .ok (.aload_n 2, 1) := by decide +kernel
theorem dX4_takeAmount_3 : decode cX4_takeAmount 3 = .ok (.invokevirtual 67, 3) := by decide +kernel
theorem dX4_takeAmount_6 : decode cX4_takeAmount 6 = .ok (.istore_n 3, 1) := by decide +kernel
theorem dX4_takeAmount_7 : decode cX4_takeAmount 7 = .ok (.iload_n 3, 1) := by decide +kernel
theorem dX4_takeAmount_8 : decode cX4_takeAmount 8 = .ok (.ifCond .gt 4, 3) := by decide +kernel
theorem dX4_takeAmount_11 : decode cX4_takeAmount 11 = .ok (.return_, 1) := by decide +kernel
theorem dX4_takeAmount_12 : decode cX4_takeAmount 12 = .ok (.iload_n 3, 1) := by decide +kernel
theorem dX4_takeAmount_13 : decode cX4_takeAmount 13 = .ok (.aload_n 1, 1) := by decide +kernel
theorem dX4_takeAmount_14 : decode cX4_takeAmount 14 = .ok (.getfield 64, 3) := by decide +kernel
theorem dX4_takeAmount_17 : decode cX4_takeAmount 17 = .ok (.invokestatic 71, 3) := by decide +kernel
theorem dX4_takeAmount_20 : decode cX4_takeAmount 20 = .ok (.istore 4, 2) := by decide +kernel
theorem dX4_takeAmount_22 : decode cX4_takeAmount 22 = .ok (.iload 4, 2) := by decide +kernel
theorem dX4_takeAmount_24 : decode cX4_takeAmount 24 = .ok (.istore 5, 2) := by decide +kernel
theorem dX4_takeAmount_26 : decode cX4_takeAmount 26 = .ok (.iconst 0, 1) := by decide +kernel
theorem dX4_takeAmount_27 : decode cX4_takeAmount 27 = .ok (.istore 6, 2) := by decide +kernel
theorem dX4_takeAmount_29 : decode cX4_takeAmount 29 = .ok (.iload 6, 2) := by decide +kernel
theorem dX4_takeAmount_31 : decode cX4_takeAmount 31 = .ok (.aload_n 0, 1) := by decide +kernel
theorem dX4_takeAmount_32 : decode cX4_takeAmount 32 = .ok (.getfield 26, 3) := by decide +kernel
theorem dX4_takeAmount_35 : decode cX4_takeAmount 35 = .ok (.if_icmp .ge 54, 3) := by decide +kernel
theorem dX4_takeAmount_38 : decode cX4_takeAmount 38 = .ok (.aload_n 1, 1) := by decide +kernel
theorem dX4_takeAmount_39 : decode cX4_takeAmount 39 = .ok (.aload_n 0, 1) := by decide +kernel
theorem dX4_takeAmount_40 : decode cX4_takeAmount 40 = .ok (.getfield 15, 3) := by decide +kernel
theorem dX4_takeAmount_43 : decode cX4_takeAmount 43 = .ok (.iload 6, 2) := by decide +kernel
theorem dX4_takeAmount_45 : decode cX4_takeAmount 45 = .ok (.iaload, 1) := by decide +kernel
theorem dX4_takeAmount_46 : decode cX4_takeAmount 46 = .ok (.invokevirtual 60, 3) := by decide +kernel
theorem dX4_takeAmount_49 : decode cX4_takeAmount 49 = .ok (.ifCond .eq 34, 3) := by decide +kernel
theorem dX4_takeAmount_52 : decode cX4_takeAmount 52 = .ok (.aload_n 2, 1) := by decide +kernel
theorem dX4_takeAmount_53 : decode cX4_takeAmount 53 = .ok (.iload 6, 2) := by decide +kernel
theorem dX4_takeAmount_55 : decode cX4_takeAmount 55 = .ok (.iaload, 1) := by decide +kernel
theorem dX4_takeAmount_56 : decode cX4_takeAmount 56 = .ok (.i2l, 1) := by decide +kernel
theorem dX4_takeAmount_57 : decode cX4_takeAmount 57 = .ok (.iload 4, 2) := by decide +kernel
theorem dX4_takeAmount_59 : decode cX4_takeAmount 59 = .ok (.i2l, 1) := by decide +kernel
theorem dX4_takeAmount_60 : decode cX4_takeAmount 60 = .ok (.lmul, 1) := by decide +kernel
theorem dX4_takeAmount_61 : decode cX4_takeAmount 61 = .ok (.iload_n 3, 1) := by decide +kernel
theorem dX4_takeAmount_62 : decode cX4_takeAmount 62 = .ok (.i2l, 1) := by decide +kernel
theorem dX4_takeAmount_63 : decode cX4_takeAmount 63 = .ok (.ldiv, 1) := by decide +kernel
theorem dX4_takeAmount_64 : decode cX4_takeAmount 64 = .ok (.l2i, 1) := by decide +kernel
theorem dX4_takeAmount_65 : decode cX4_takeAmount 65 = .ok (.istore 7, 2) := by decide +kernel
theorem dX4_takeAmount_67 : decode cX4_takeAmount 67 = .ok (.aload_n 2, 1) := by decide +kernel
theorem dX4_takeAmount_68 : decode cX4_takeAmount 68 = .ok (.iload 6, 2) := by decide +kernel
theorem dX4_takeAmount_70 : decode cX4_takeAmount 70 = .ok (.dup2, 1) := by decide +kernel
theorem dX4_takeAmount_71 : decode cX4_takeAmount 71 = .ok (.iaload, 1) := by decide +kernel
theorem dX4_takeAmount_72 : decode cX4_takeAmount 72 = .ok (.iload 7, 2) := by decide +kernel
theorem dX4_takeAmount_74 : decode cX4_takeAmount 74 = .ok (.isub, 1) := by decide +kernel
theorem dX4_takeAmount_75 : decode cX4_takeAmount 75 = .ok (.iastore, 1) := by decide +kernel
theorem dX4_takeAmount_76 : decode cX4_takeAmount 76 = .ok (.iload 5, 2) := by decide +kernel
theorem dX4_takeAmount_78 : decode cX4_takeAmount 78 = .ok (.iload 7, 2) := by decide +kernel
theorem dX4_takeAmount_80 : decode cX4_takeAmount 80 = .ok (.isub, 1) := by decide +kernel
theorem dX4_takeAmount_81 : decode cX4_takeAmount 81 = .ok (.istore 5, 2) := by decide +kernel
theorem dX4_takeAmount_83 : decode cX4_takeAmount 83 = .ok (.iinc 6 1, 3) := by decide +kernel
theorem dX4_takeAmount_86 : decode cX4_takeAmount 86 = .ok (.goto (-57), 3) := by decide +kernel
theorem dX4_takeAmount_89 : decode cX4_takeAmount 89 = .ok (.aload_n 0, 1) := by decide +kernel
theorem dX4_takeAmount_90 : decode cX4_takeAmount 90 = .ok (.aload_n 1, 1) := by decide +kernel
theorem dX4_takeAmount_91 : decode cX4_takeAmount 91 = .ok (.aload_n 2, 1) := by decide +kernel
theorem dX4_takeAmount_92 : decode cX4_takeAmount 92 = .ok (.iload 5, 2) := by decide +kernel
theorem dX4_takeAmount_94 : decode cX4_takeAmount 94 = .ok (.invokevirtual 77, 3) := by decide +kernel
theorem dX4_takeAmount_97 : decode cX4_takeAmount 97 = .ok (.return_, 1) := by decide +kernel
theorem dX4_matchedRests_0 : decode cX4_matchedRests 0 = .ok (.iconst 0, 1) := by decide +kernel
theorem dX4_matchedRests_1 : decode cX4_matchedRests 1 = .ok (.istore_n 3, 1) := by decide +kernel
theorem dX4_matchedRests_2 : decode cX4_matchedRests 2 = .ok (.iconst 0, 1) := by decide +kernel
theorem dX4_matchedRests_3 : decode cX4_matchedRests 3 = .ok (.istore 4, 2) := by decide +kernel
theorem dX4_matchedRests_5 : decode cX4_matchedRests 5 = .ok (.iload 4, 2) := by decide +kernel
theorem dX4_matchedRests_7 : decode cX4_matchedRests 7 = .ok (.aload_n 0, 1) := by decide +kernel
theorem dX4_matchedRests_8 : decode cX4_matchedRests 8 = .ok (.getfield 26, 3) := by decide +kernel
theorem dX4_matchedRests_11 : decode cX4_matchedRests 11 = .ok (.if_icmp .ge 30, 3) := by decide +kernel
theorem dX4_matchedRests_14 : decode cX4_matchedRests 14 = .ok (.aload_n 1, 1) := by decide +kernel
theorem dX4_matchedRests_15 : decode cX4_matchedRests 15 = .ok (.aload_n 0, 1) := by decide +kernel
theorem dX4_matchedRests_16 : decode cX4_matchedRests 16 = .ok (.getfield 15, 3) := by decide +kernel
theorem dX4_matchedRests_19 : decode cX4_matchedRests 19 = .ok (.iload 4, 2) := by decide +kernel
theorem dX4_matchedRests_21 : decode cX4_matchedRests 21 = .ok (.iaload, 1) := by decide +kernel
theorem dX4_matchedRests_22 : decode cX4_matchedRests 22 = .ok (.invokevirtual 60, 3) := by decide +kernel
theorem dX4_matchedRests_25 : decode cX4_matchedRests 25 = .ok (.ifCond .eq 10, 3) := by decide +kernel
theorem dX4_matchedRests_28 : decode cX4_matchedRests 28 = .ok (.iload_n 3, 1) := by decide +kernel
theorem dX4_matchedRests_29 : decode cX4_matchedRests 29 = .ok (.aload_n 2, 1) := by decide +kernel
theorem dX4_matchedRests_30 : decode cX4_matchedRests 30 = .ok (.iload 4, 2) := by decide +kernel
theorem dX4_matchedRests_32 : decode cX4_matchedRests 32 = .ok (.iaload, 1) := by decide +kernel
theorem dX4_matchedRests_33 : decode cX4_matchedRests 33 = .ok (.iadd, 1) := by decide +kernel
theorem dX4_matchedRests_34 : decode cX4_matchedRests 34 = .ok (.istore_n 3, 1) := by decide +kernel
theorem dX4_matchedRests_35 : decode cX4_matchedRests 35 = .ok (.iinc 4 1, 3) := by decide +kernel
theorem dX4_matchedRests_38 : decode cX4_matchedRests 38 = .ok (.goto (-33), 3) := by decide +kernel
theorem dX4_matchedRests_41 : decode cX4_matchedRests 41 = .ok (.iload_n 3, 1) := by decide +kernel
theorem dX4_matchedRests_42 : decode cX4_matchedRests 42 = .ok (.ireturn, 1) := by decide +kernel
theorem dX4_takeOnes_0 : decode cX4_takeOnes 0 = .ok (.iload_n 3, 1) := by decide +kernel
theorem dX4_takeOnes_1 : decode cX4_takeOnes 1 = .ok (.istore 4, 2) := by decide +kernel
theorem dX4_takeOnes_3 : decode cX4_takeOnes 3 = .ok (.iconst 0, 1) := by decide +kernel
theorem dX4_takeOnes_4 : decode cX4_takeOnes 4 = .ok (.istore 5, 2) := by decide +kernel
theorem dX4_takeOnes_6 : decode cX4_takeOnes 6 = .ok (.iload 5, 2) := by decide +kernel
theorem dX4_takeOnes_8 : decode cX4_takeOnes 8 = .ok (.aload_n 0, 1) := by decide +kernel
theorem dX4_takeOnes_9 : decode cX4_takeOnes 9 = .ok (.getfield 26, 3) := by decide +kernel
theorem dX4_takeOnes_12 : decode cX4_takeOnes 12 = .ok (.if_icmp .ge 46, 3) := by decide +kernel
theorem dX4_takeOnes_15 : decode cX4_takeOnes 15 = .ok (.iload 4, 2) := by decide +kernel
theorem dX4_takeOnes_17 : decode cX4_takeOnes 17 = .ok (.ifCond .le 41, 3) := by decide +kernel
theorem dX4_takeOnes_20 : decode cX4_takeOnes 20 = .ok (.aload_n 2, 1) := by decide +kernel
theorem dX4_takeOnes_21 : decode cX4_takeOnes 21 = .ok (.iload 5, 2) := by decide +kernel
theorem dX4_takeOnes_23 : decode cX4_takeOnes 23 = .ok (.iaload, 1) := by decide +kernel
theorem dX4_takeOnes_24 : decode cX4_takeOnes 24 = .ok (.ifCond .le 28, 3) := by decide +kernel
theorem dX4_takeOnes_27 : decode cX4_takeOnes 27 = .ok (.aload_n 1, 1) := by decide +kernel
theorem dX4_takeOnes_28 : decode cX4_takeOnes 28 = .ok (.aload_n 0, 1) := by decide +kernel
theorem dX4_takeOnes_29 : decode cX4_takeOnes 29 = .ok (.getfield 15, 3) := by decide +kernel
theorem dX4_takeOnes_32 : decode cX4_takeOnes 32 = .ok (.iload 5, 2) := by decide +kernel
theorem dX4_takeOnes_34 : decode cX4_takeOnes 34 = .ok (.iaload, 1) := by decide +kernel
theorem dX4_takeOnes_35 : decode cX4_takeOnes 35 = .ok (.invokevirtual 60, 3) := by decide +kernel
theorem dX4_takeOnes_38 : decode cX4_takeOnes 38 = .ok (.ifCond .eq 14, 3) := by decide +kernel
theorem dX4_takeOnes_41 : decode cX4_takeOnes 41 = .ok (.aload_n 2, 1) := by decide +kernel
theorem dX4_takeOnes_42 : decode cX4_takeOnes 42 = .ok (.iload 5, 2) := by decide +kernel
theorem dX4_takeOnes_44 : decode cX4_takeOnes 44 = .ok (.dup2, 1) := by decide +kernel
theorem dX4_takeOnes_45 : decode cX4_takeOnes 45 = .ok (.iaload, 1) := by decide +kernel
theorem dX4_takeOnes_46 : decode cX4_takeOnes 46 = .ok (.iconst 1, 1) := by decide +kernel
theorem dX4_takeOnes_47 : decode cX4_takeOnes 47 = .ok (.isub, 1) := by decide +kernel
theorem dX4_takeOnes_48 : decode cX4_takeOnes 48 = .ok (.iastore, 1) := by decide +kernel
theorem dX4_takeOnes_49 : decode cX4_takeOnes 49 = .ok (.iinc 4 (-1), 3) := by decide +kernel
theorem dX4_takeOnes_52 : decode cX4_takeOnes 52 = .ok (.iinc 5 1, 3) := by decide +kernel
theorem dX4_takeOnes_55 : decode cX4_takeOnes 55 = .ok (.goto (-49), 3) := by decide +kernel
theorem dX4_takeOnes_58 : decode cX4_takeOnes 58 = .ok (.return_, 1) := by decide +kernel
theorem dX4_takeBundles_0 : decode cX4_takeBundles 0 = .ok (.aload_n 0, 1) := by decide +kernel
theorem dX4_takeBundles_1 : decode cX4_takeBundles 1 = .ok (.aload_n 1, 1) := by decide +kernel
theorem dX4_takeBundles_2 : decode cX4_takeBundles 2 = .ok (.aload_n 2, 1) := by decide +kernel
theorem dX4_takeBundles_3 : decode cX4_takeBundles 3 = .ok (.invokevirtual 81, 3) := by decide +kernel
theorem dX4_takeBundles_6 : decode cX4_takeBundles 6 = .ok (.istore_n 3, 1) := by decide +kernel
theorem dX4_takeBundles_7 : decode cX4_takeBundles 7 = .ok (.iconst 0, 1) := by decide +kernel
theorem dX4_takeBundles_8 : decode cX4_takeBundles 8 = .ok (.istore 4, 2) := by decide +kernel
theorem dX4_takeBundles_10 : decode cX4_takeBundles 10 = .ok (.iconst 0, 1) := by decide +kernel
theorem dX4_takeBundles_11 : decode cX4_takeBundles 11 = .ok (.istore 5, 2) := by decide +kernel
theorem dX4_takeBundles_13 : decode cX4_takeBundles 13 = .ok (.iload 5, 2) := by decide +kernel
theorem dX4_takeBundles_15 : decode cX4_takeBundles 15 = .ok (.iload_n 3, 1) := by decide +kernel
theorem dX4_takeBundles_16 : decode cX4_takeBundles 16 = .ok (.if_icmp .ge 34, 3) := by decide +kernel
theorem dX4_takeBundles_19 : decode cX4_takeBundles 19 = .ok (.iinc 4 1, 3) := by decide +kernel
theorem dX4_takeBundles_22 : decode cX4_takeBundles 22 = .ok (.iload 4, 2) := by decide +kernel
theorem dX4_takeBundles_24 : decode cX4_takeBundles 24 = .ok (.aload_n 1, 1) := by decide +kernel
theorem dX4_takeBundles_25 : decode cX4_takeBundles 25 = .ok (.getfield 64, 3) := by decide +kernel
theorem dX4_takeBundles_28 : decode cX4_takeBundles 28 = .ok (.if_icmp .ne 16, 3) := by decide +kernel
theorem dX4_takeBundles_31 : decode cX4_takeBundles 31 = .ok (.aload_n 2, 1) := by decide +kernel
theorem dX4_takeBundles_32 : decode cX4_takeBundles 32 = .ok (.aload_n 0, 1) := by decide +kernel
theorem dX4_takeBundles_33 : decode cX4_takeBundles 33 = .ok (.getfield 23, 3) := by decide +kernel
theorem dX4_takeBundles_36 : decode cX4_takeBundles 36 = .ok (.iload 5, 2) := by decide +kernel
theorem dX4_takeBundles_38 : decode cX4_takeBundles 38 = .ok (.iaload, 1) := by decide +kernel
theorem dX4_takeBundles_39 : decode cX4_takeBundles 39 = .ok (.iconst 0, 1) := by decide +kernel
theorem dX4_takeBundles_40 : decode cX4_takeBundles 40 = .ok (.iastore, 1) := by decide +kernel
theorem dX4_takeBundles_41 : decode cX4_takeBundles 41 = .ok (.iconst 0, 1) := by decide +kernel
theorem dX4_takeBundles_42 : decode cX4_takeBundles 42 = .ok (.istore 4, 2) := by decide +kernel
theorem dX4_takeBundles_44 : decode cX4_takeBundles 44 = .ok (.iinc 5 1, 3) := by decide +kernel
theorem dX4_takeBundles_47 : decode cX4_takeBundles 47 = .ok (.goto (-34), 3) := by decide +kernel
theorem dX4_takeBundles_50 : decode cX4_takeBundles 50 = .ok (.return_, 1) := by decide +kernel
theorem dX4_rankMatched_0 : decode cX4_rankMatched 0 = .ok (.iconst 0, 1) := by decide +kernel
theorem dX4_rankMatched_1 : decode cX4_rankMatched 1 = .ok (.istore_n 3, 1) := by decide +kernel
theorem dX4_rankMatched_2 : decode cX4_rankMatched 2 = .ok (.iconst 0, 1) := by decide +kernel
theorem dX4_rankMatched_3 : decode cX4_rankMatched 3 = .ok (.istore 4, 2) := by decide +kernel
theorem dX4_rankMatched_5 : decode cX4_rankMatched 5 = .ok (.iload 4, 2) := by decide +kernel
theorem dX4_rankMatched_7 : decode cX4_rankMatched 7 = .ok (.aload_n 0, 1) := by decide +kernel
theorem dX4_rankMatched_8 : decode cX4_rankMatched 8 = .ok (.getfield 26, 3) := by decide +kernel
theorem dX4_rankMatched_11 : decode cX4_rankMatched 11 = .ok (.if_icmp .ge 83, 3) := by decide +kernel
theorem dX4_rankMatched_14 : decode cX4_rankMatched 14 = .ok (.aload_n 1, 1) := by decide +kernel
theorem dX4_rankMatched_15 : decode cX4_rankMatched 15 = .ok (.aload_n 0, 1) := by decide +kernel
theorem dX4_rankMatched_16 : decode cX4_rankMatched 16 = .ok (.getfield 15, 3) := by decide +kernel
theorem dX4_rankMatched_19 : decode cX4_rankMatched 19 = .ok (.iload 4, 2) := by decide +kernel
theorem dX4_rankMatched_21 : decode cX4_rankMatched 21 = .ok (.iaload, 1) := by decide +kernel
theorem dX4_rankMatched_22 : decode cX4_rankMatched 22 = .ok (.invokevirtual 60, 3) := by decide +kernel
theorem dX4_rankMatched_25 : decode cX4_rankMatched 25 = .ok (.ifCond .eq 63, 3) := by decide +kernel
theorem dX4_rankMatched_28 : decode cX4_rankMatched 28 = .ok (.iload_n 3, 1) := by decide +kernel
theorem dX4_rankMatched_29 : decode cX4_rankMatched 29 = .ok (.istore 5, 2) := by decide +kernel
theorem dX4_rankMatched_31 : decode cX4_rankMatched 31 = .ok (.iload 5, 2) := by decide +kernel
theorem dX4_rankMatched_33 : decode cX4_rankMatched 33 = .ok (.ifCond .le 43, 3) := by decide +kernel
theorem dX4_rankMatched_36 : decode cX4_rankMatched 36 = .ok (.aload_n 2, 1) := by decide +kernel
theorem dX4_rankMatched_37 : decode cX4_rankMatched 37 = .ok (.aload_n 0, 1) := by decide +kernel
theorem dX4_rankMatched_38 : decode cX4_rankMatched 38 = .ok (.getfield 23, 3) := by decide +kernel
theorem dX4_rankMatched_41 : decode cX4_rankMatched 41 = .ok (.iload 5, 2) := by decide +kernel
theorem dX4_rankMatched_43 : decode cX4_rankMatched 43 = .ok (.iconst 1, 1) := by decide +kernel
theorem dX4_rankMatched_44 : decode cX4_rankMatched 44 = .ok (.isub, 1) := by decide +kernel
theorem dX4_rankMatched_45 : decode cX4_rankMatched 45 = .ok (.iaload, 1) := by decide +kernel
theorem dX4_rankMatched_46 : decode cX4_rankMatched 46 = .ok (.iaload, 1) := by decide +kernel
theorem dX4_rankMatched_47 : decode cX4_rankMatched 47 = .ok (.aload_n 2, 1) := by decide +kernel
theorem dX4_rankMatched_48 : decode cX4_rankMatched 48 = .ok (.iload 4, 2) := by decide +kernel
theorem dX4_rankMatched_50 : decode cX4_rankMatched 50 = .ok (.iaload, 1) := by decide +kernel
theorem dX4_rankMatched_51 : decode cX4_rankMatched 51 = .ok (.if_icmp .ge 25, 3) := by decide +kernel
theorem dX4_rankMatched_54 : decode cX4_rankMatched 54 = .ok (.aload_n 0, 1) := by decide +kernel
theorem dX4_rankMatched_55 : decode cX4_rankMatched 55 = .ok (.getfield 23, 3) := by decide +kernel
theorem dX4_rankMatched_58 : decode cX4_rankMatched 58 = .ok (.iload 5, 2) := by decide +kernel
theorem dX4_rankMatched_60 : decode cX4_rankMatched 60 = .ok (.aload_n 0, 1) := by decide +kernel
theorem dX4_rankMatched_61 : decode cX4_rankMatched 61 = .ok (.getfield 23, 3) := by decide +kernel
theorem dX4_rankMatched_64 : decode cX4_rankMatched 64 = .ok (.iload 5, 2) := by decide +kernel
theorem dX4_rankMatched_66 : decode cX4_rankMatched 66 = .ok (.iconst 1, 1) := by decide +kernel
theorem dX4_rankMatched_67 : decode cX4_rankMatched 67 = .ok (.isub, 1) := by decide +kernel
theorem dX4_rankMatched_68 : decode cX4_rankMatched 68 = .ok (.iaload, 1) := by decide +kernel
theorem dX4_rankMatched_69 : decode cX4_rankMatched 69 = .ok (.iastore, 1) := by decide +kernel
theorem dX4_rankMatched_70 : decode cX4_rankMatched 70 = .ok (.iinc 5 (-1), 3) := by decide +kernel
theorem dX4_rankMatched_73 : decode cX4_rankMatched 73 = .ok (.goto (-42), 3) := by decide +kernel
theorem dX4_rankMatched_76 : decode cX4_rankMatched 76 = .ok (.aload_n 0, 1) := by decide +kernel
theorem dX4_rankMatched_77 : decode cX4_rankMatched 77 = .ok (.getfield 23, 3) := by decide +kernel
theorem dX4_rankMatched_80 : decode cX4_rankMatched 80 = .ok (.iload 5, 2) := by decide +kernel
theorem dX4_rankMatched_82 : decode cX4_rankMatched 82 = .ok (.iload 4, 2) := by decide +kernel
theorem dX4_rankMatched_84 : decode cX4_rankMatched 84 = .ok (.iastore, 1) := by decide +kernel
theorem dX4_rankMatched_85 : decode cX4_rankMatched 85 = .ok (.iinc 3 1, 3) := by decide +kernel
theorem dX4_rankMatched_88 : decode cX4_rankMatched 88 = .ok (.iinc 4 1, 3) := by decide +kernel
theorem dX4_rankMatched_91 : decode cX4_rankMatched 91 = .ok (.goto (-86), 3) := by decide +kernel
theorem dX4_rankMatched_94 : decode cX4_rankMatched 94 = .ok (.iload_n 3, 1) := by decide +kernel
theorem dX4_rankMatched_95 : decode cX4_rankMatched 95 = .ok (.ireturn, 1) := by decide +kernel
theorem dX5_init_0 : decode cX5_init 0 = .ok (.aload_n 0, 1) := by decide +kernel
theorem dX5_init_1 : decode cX5_init 1 = .ok (.invokespecial 3, 3) := by decide +kernel
theorem dX5_init_4 : decode cX5_init 4 = .ok (.aload_n 0, 1) := by decide +kernel
theorem dX5_init_5 : decode cX5_init 5 = .ok (.new 9, 3) := by decide +kernel
theorem dX5_init_8 : decode cX5_init 8 = .ok (.dup, 1) := by decide +kernel
theorem dX5_init_9 : decode cX5_init 9 = .ok (.invokespecial 11, 3) := by decide +kernel
theorem dX5_init_12 : decode cX5_init 12 = .ok (.putfield 12, 3) := by decide +kernel
theorem dX5_init_15 : decode cX5_init 15 = .ok (.aload_n 0, 1) := by decide +kernel
theorem dX5_init_16 : decode cX5_init 16 = .ok (.bipush 8, 2) := by decide +kernel
theorem dX5_init_18 : decode cX5_init 18 = .ok (.anewarray 16, 3) := by decide +kernel
theorem dX5_init_21 : decode cX5_init 21 = .ok (.putfield 18, 3) := by decide +kernel
theorem dX5_init_24 : decode cX5_init 24 = .ok (.aload_n 0, 1) := by decide +kernel
theorem dX5_init_25 : decode cX5_init 25 = .ok (.bipush 12, 2) := by decide +kernel
theorem dX5_init_27 : decode cX5_init 27 = .ok (.anewarray 22, 3) := by decide +kernel
theorem dX5_init_30 : decode cX5_init 30 = .ok (.putfield 24, 3) := by decide +kernel
theorem dX5_init_33 : decode cX5_init 33 = .ok (.aload_n 0, 1) := by decide +kernel
theorem dX5_init_34 : decode cX5_init 34 = .ok (.new 28, 3) := by decide +kernel
theorem dX5_init_37 : decode cX5_init 37 = .ok (.dup, 1) := by decide +kernel
theorem dX5_init_38 : decode cX5_init 38 = .ok (.invokespecial 30, 3) := by decide +kernel
theorem dX5_init_41 : decode cX5_init 41 = .ok (.putfield 31, 3) := by decide +kernel
theorem dX5_init_44 : decode cX5_init 44 = .ok (.aload_n 0, 1) := by decide +kernel
theorem dX5_init_45 : decode cX5_init 45 = .ok (.new 35, 3) := by decide +kernel
theorem dX5_init_48 : decode cX5_init 48 = .ok (.dup, 1) := by decide +kernel
theorem dX5_init_49 : decode cX5_init 49 = .ok (.invokespecial 37, 3) := by decide +kernel
theorem dX5_init_52 : decode cX5_init 52 = .ok (.putfield 38, 3) := by decide +kernel
theorem dX5_init_55 : decode cX5_init 55 = .ok (.aload_n 0, 1) := by decide +kernel
theorem dX5_init_56 : decode cX5_init 56 = .ok (.iconst 0, 1) := by decide +kernel
theorem dX5_init_57 : decode cX5_init 57 = .ok (.putfield 42, 3) := by decide +kernel
theorem dX5_init_60 : decode cX5_init 60 = .ok (.aload_n 0, 1) := by decide +kernel
theorem dX5_init_61 : decode cX5_init 61 = .ok (.iconst 0, 1) := by decide +kernel
theorem dX5_init_62 : decode cX5_init 62 = .ok (.putfield 46, 3) := by decide +kernel
theorem dX5_init_65 : decode cX5_init 65 = .ok (.aload_n 0, 1) := by decide +kernel
theorem dX5_init_66 : decode cX5_init 66 = .ok (.iconst 0, 1) := by decide +kernel
theorem dX5_init_67 : decode cX5_init 67 = .ok (.putfield 49, 3) := by decide +kernel
theorem dX5_init_70 : decode cX5_init 70 = .ok (.aload_n 0, 1) := by decide +kernel
theorem dX5_init_71 : decode cX5_init 71 = .ok (.iconst 0, 1) := by decide +kernel
theorem dX5_init_72 : decode cX5_init 72 = .ok (.putfield 52, 3) := by decide +kernel
theorem dX5_init_75 : decode cX5_init 75 = .ok (.aload_n 0, 1) := by decide +kernel
theorem dX5_init_76 : decode cX5_init 76 = .ok (.ldc 55, 2) := by decide +kernel
theorem dX5_init_78 : decode cX5_init 78 = .ok (.putfield 56, 3) := by decide +kernel
theorem dX5_init_81 : decode cX5_init 81 = .ok (.iconst 0, 1) := by decide +kernel
theorem dX5_init_82 : decode cX5_init 82 = .ok (.istore_n 1, 1) := by decide +kernel
theorem dX5_init_83 : decode cX5_init 83 = .ok (.iload_n 1, 1) := by decide +kernel
theorem dX5_init_84 : decode cX5_init 84 = .ok (.bipush 8, 2) := by decide +kernel
theorem dX5_init_86 : decode cX5_init 86 = .ok (.if_icmp .ge 22, 3) := by decide +kernel
theorem dX5_init_89 : decode cX5_init 89 = .ok (.aload_n 0, 1) := by decide +kernel
theorem dX5_init_90 : decode cX5_init 90 = .ok (.getfield 18, 3) := by decide +kernel
theorem dX5_init_93 : decode cX5_init 93 = .ok (.iload_n 1, 1) := by decide +kernel
theorem dX5_init_94 : decode cX5_init 94 = .ok (.new 16, 3) := by decide +kernel
theorem dX5_init_97 : decode cX5_init 97 = .ok (.dup, 1) := by decide +kernel
theorem dX5_init_98 : decode cX5_init 98 = .ok (.invokespecial 59, 3) := by decide +kernel
theorem dX5_init_101 : decode cX5_init 101 = .ok (.aastore, 1) := by decide +kernel
theorem dX5_init_102 : decode cX5_init 102 = .ok (.iinc 1 1, 3) := by decide +kernel
theorem dX5_init_105 : decode cX5_init 105 = .ok (.goto (-22), 3) := by decide +kernel
theorem dX5_init_108 : decode cX5_init 108 = .ok (.iconst 0, 1) := by decide +kernel
theorem dX5_init_109 : decode cX5_init 109 = .ok (.istore_n 1, 1) := by decide +kernel
theorem dX5_init_110 : decode cX5_init 110 = .ok (.iload_n 1, 1) := by decide +kernel
theorem dX5_init_111 : decode cX5_init 111 = .ok (.bipush 12, 2) := by decide +kernel
theorem dX5_init_113 : decode cX5_init 113 = .ok (.if_icmp .ge 22, 3) := by decide +kernel
theorem dX5_init_116 : decode cX5_init 116 = .ok (.aload_n 0, 1) := by decide +kernel
theorem dX5_init_117 : decode cX5_init 117 = .ok (.getfield 24, 3) := by decide +kernel
theorem dX5_init_120 : decode cX5_init 120 = .ok (.iload_n 1, 1) := by decide +kernel
theorem dX5_init_121 : decode cX5_init 121 = .ok (.new 22, 3) := by decide +kernel
theorem dX5_init_124 : decode cX5_init 124 = .ok (.dup, 1) := by decide +kernel
theorem dX5_init_125 : decode cX5_init 125 = .ok (.invokespecial 60, 3) := by decide +kernel
theorem dX5_init_128 : decode cX5_init 128 = .ok (.aastore, 1) := by decide +kernel
theorem dX5_init_129 : decode cX5_init 129 = .ok (.iinc 1 1, 3) := by decide +kernel
theorem dX5_init_132 : decode cX5_init 132 = .ok (.goto (-22), 3) := by decide +kernel
theorem dX5_init_135 : decode cX5_init 135 = .ok (.return_, 1) := by decide +kernel
theorem dX5_addArticle_0 : decode cX5_addArticle 0 = .ok (.iload_n 1, 1) := by decide +kernel
theorem dX5_addArticle_1 : decode cX5_addArticle 1 = .ok (.invokestatic 61, 3) := by decide +kernel
theorem dX5_addArticle_4 : decode cX5_addArticle 4 = .ok (.iload_n 2, 1) := by decide +kernel
theorem dX5_addArticle_5 : decode cX5_addArticle 5 = .ok (.ifCond .lt 9, 3) := by decide +kernel
theorem dX5_addArticle_8 : decode cX5_addArticle 8 = .ok (.iload_n 2, 1) := by decide +kernel
theorem dX5_addArticle_9 : decode cX5_addArticle 9 = .ok (.bipush 7, 2) := by decide +kernel
theorem dX5_addArticle_11 : decode cX5_addArticle 11 = .ok (.if_icmp .le 13, 3) := by decide +kernel
theorem dX5_addArticle_14 : decode cX5_addArticle 14 = .ok (.new 65, 3) := by decide +kernel
theorem dX5_addArticle_17 : decode cX5_addArticle 17 = .ok (.dup, 1) := by decide +kernel
theorem dX5_addArticle_18 : decode cX5_addArticle 18 = .ok (.ldc 67, 2) := by decide +kernel
theorem dX5_addArticle_20 : decode cX5_addArticle 20 = .ok (.invokespecial 69, 3) := by decide +kernel
theorem dX5_addArticle_23 : decode cX5_addArticle 23 = .ok (.athrow, 1) := by decide +kernel
theorem dX5_addArticle_24 : decode cX5_addArticle 24 = .ok (.aload_n 0, 1) := by decide +kernel
theorem dX5_addArticle_25 : decode cX5_addArticle 25 = .ok (.getfield 42, 3) := by decide +kernel
theorem dX5_addArticle_28 : decode cX5_addArticle 28 = .ok (.bipush 10, 2) := by decide +kernel
theorem dX5_addArticle_30 : decode cX5_addArticle 30 = .ok (.if_icmp .lt 13, 3) := by decide +kernel
theorem dX5_addArticle_33 : decode cX5_addArticle 33 = .ok (.new 72, 3) := by decide +kernel
theorem dX5_addArticle_36 : decode cX5_addArticle 36 = .ok (.dup, 1) := by decide +kernel
theorem dX5_addArticle_37 : decode cX5_addArticle 37 = .ok (.ldc 74, 2) := by decide +kernel
theorem dX5_addArticle_39 : decode cX5_addArticle 39 = .ok (.invokespecial 76, 3) := by decide +kernel
theorem dX5_addArticle_42 : decode cX5_addArticle 42 = .ok (.athrow, 1) := by decide +kernel
theorem dX5_addArticle_43 : decode cX5_addArticle 43 = .ok (.aload_n 0, 1) := by decide +kernel
theorem dX5_addArticle_44 : decode cX5_addArticle 44 = .ok (.getfield 42, 3) := by decide +kernel
theorem dX5_addArticle_47 : decode cX5_addArticle 47 = .ok (.istore_n 3, 1) := by decide +kernel
theorem dX5_addArticle_48 : decode cX5_addArticle 48 = .ok (.aload_n 0, 1) := by decide +kernel
theorem dX5_addArticle_49 : decode cX5_addArticle 49 = .ok (.getfield 12, 3) := by decide +kernel
theorem dX5_addArticle_52 : decode cX5_addArticle 52 = .ok (.getfield 77, 3) := by decide +kernel
theorem dX5_addArticle_55 : decode cX5_addArticle 55 = .ok (.iload_n 3, 1) := by decide +kernel
theorem dX5_addArticle_56 : decode cX5_addArticle 56 = .ok (.iload_n 1, 1) := by decide +kernel
theorem dX5_addArticle_57 : decode cX5_addArticle 57 = .ok (.iastore, 1) := by decide +kernel
theorem dX5_addArticle_58 : decode cX5_addArticle 58 = .ok (.aload_n 0, 1) := by decide +kernel
theorem dX5_addArticle_59 : decode cX5_addArticle 59 = .ok (.getfield 12, 3) := by decide +kernel
theorem dX5_addArticle_62 : decode cX5_addArticle 62 = .ok (.getfield 81, 3) := by decide +kernel
theorem dX5_addArticle_65 : decode cX5_addArticle 65 = .ok (.iload_n 3, 1) := by decide +kernel
theorem dX5_addArticle_66 : decode cX5_addArticle 66 = .ok (.iload_n 2, 1) := by decide +kernel
theorem dX5_addArticle_67 : decode cX5_addArticle 67 = .ok (.iastore, 1) := by decide +kernel
theorem dX5_addArticle_68 : decode cX5_addArticle 68 = .ok (.aload_n 0, 1) := by decide +kernel
theorem dX5_addArticle_69 : decode cX5_addArticle 69 = .ok (.dup, 1) := by decide +kernel
theorem dX5_addArticle_70 : decode cX5_addArticle 70 = .ok (.getfield 42, 3) := by decide +kernel
theorem dX5_addArticle_73 : decode cX5_addArticle 73 = .ok (.iconst 1, 1) := by decide +kernel
theorem dX5_addArticle_74 : decode cX5_addArticle 74 = .ok (.iadd, 1) := by decide +kernel
theorem dX5_addArticle_75 : decode cX5_addArticle 75 = .ok (.putfield 42, 3) := by decide +kernel
theorem dX5_addArticle_78 : decode cX5_addArticle 78 = .ok (.iload_n 3, 1) := by decide +kernel
theorem dX5_addArticle_79 : decode cX5_addArticle 79 = .ok (.ireturn, 1) := by decide +kernel
theorem dX5_put_0 : decode cX5_put 0 = .ok (.aload_n 0, 1) := by decide +kernel
theorem dX5_put_1 : decode cX5_put 1 = .ok (.iload_n 1, 1) := by decide +kernel
theorem dX5_put_2 : decode cX5_put 2 = .ok (.invokevirtual 84, 3) := by decide +kernel
theorem dX5_put_5 : decode cX5_put 5 = .ok (.iload_n 2, 1) := by decide +kernel
theorem dX5_put_6 : decode cX5_put 6 = .ok (.ifCond .lt 9, 3) := by decide +kernel
theorem dX5_put_9 : decode cX5_put 9 = .ok (.iload_n 2, 1) := by decide +kernel
theorem dX5_put_10 : decode cX5_put 10 = .ok (.bipush 6, 2) := by decide +kernel
theorem dX5_put_12 : decode cX5_put 12 = .ok (.if_icmp .le 13, 3) := by decide +kernel
theorem dX5_put_15 : decode cX5_put 15 = .ok (.new 65, 3) := by decide +kernel
theorem dX5_put_18 : decode cX5_put 18 = .ok (.dup, 1) := by decide +kernel
theorem dX5_put_19 : decode cX5_put 19 = .ok (.ldc 87, 2) := by decide +kernel
theorem dX5_put_21 : decode cX5_put 21 = .ok (.invokespecial 69, 3) := by decide +kernel
theorem dX5_put_24 : decode cX5_put 24 = .ok (.athrow, 1) := by decide +kernel
theorem dX5_put_25 : decode cX5_put 25 = .ok (.aload_n 0, 1) := by decide +kernel
theorem dX5_put_26 : decode cX5_put 26 = .ok (.getfield 12, 3) := by decide +kernel
theorem dX5_put_29 : decode cX5_put 29 = .ok (.getfield 89, 3) := by decide +kernel
theorem dX5_put_32 : decode cX5_put 32 = .ok (.iload_n 1, 1) := by decide +kernel
theorem dX5_put_33 : decode cX5_put 33 = .ok (.iaload, 1) := by decide +kernel
theorem dX5_put_34 : decode cX5_put 34 = .ok (.istore_n 3, 1) := by decide +kernel
theorem dX5_put_35 : decode cX5_put 35 = .ok (.aload_n 0, 1) := by decide +kernel
theorem dX5_put_36 : decode cX5_put 36 = .ok (.getfield 12, 3) := by decide +kernel
theorem dX5_put_39 : decode cX5_put 39 = .ok (.getfield 89, 3) := by decide +kernel
theorem dX5_put_42 : decode cX5_put 42 = .ok (.iload_n 1, 1) := by decide +kernel
theorem dX5_put_43 : decode cX5_put 43 = .ok (.iload_n 2, 1) := by decide +kernel
theorem dX5_put_44 : decode cX5_put 44 = .ok (.iastore, 1) := by decide +kernel
theorem dX5_put_45 : decode cX5_put 45 = .ok (.iload_n 3, 1) := by decide +kernel
theorem dX5_put_46 : decode cX5_put 46 = .ok (.ireturn, 1) := by decide +kernel
theorem dX5_value_0 : decode cX5_value 0 = .ok (.aload_n 0, 1) := by decide +kernel
theorem dX5_value_1 : decode cX5_value 1 = .ok (.getfield 12, 3) := by decide +kernel
theorem dX5_value_4 : decode cX5_value 4 = .ok (.sipush 255, 3) := by decide +kernel
theorem dX5_value_7 : decode cX5_value 7 = .ok (.invokevirtual 92, 3) := by decide +kernel
theorem dX5_value_10 : decode cX5_value 10 = .ok (.ireturn, 1) := by decide +kernel
theorem dX5_setShipping_0 : decode cX5_setShipping 0 = .ok (.iload_n 1, 1) := by decide +kernel
theorem dX5_setShipping_1 : decode cX5_setShipping 1 = .ok (.ifCond .lt 10, 3) := by decide +kernel
theorem dX5_setShipping_4 : decode cX5_setShipping 4 = .ok (.iload_n 1, 1) := by decide +kernel
theorem dX5_setShipping_5 : decode cX5_setShipping 5 = .ok (.sipush 10000, 3) := by decide +kernel
theorem dX5_setShipping_8 : decode cX5_setShipping 8 = .ok (.if_icmp .le 13, 3) := by decide +kernel
theorem dX5_setShipping_11 : decode cX5_setShipping 11 = .ok (.new 65, 3) := by decide +kernel
theorem dX5_setShipping_14 : decode cX5_setShipping 14 = .ok (.dup, 1) := by decide +kernel
theorem dX5_setShipping_15 : decode cX5_setShipping 15 = .ok (.ldc 96, 2) := by decide +kernel
theorem dX5_setShipping_17 : decode cX5_setShipping 17 = .ok (.invokespecial 69, 3) := by decide +kernel
theorem dX5_setShipping_20 : decode cX5_setShipping 20 = .ok (.athrow, 1) := by decide +kernel
theorem dX5_setShipping_21 : decode cX5_setShipping 21 = .ok (.iload_n 2, 1) := by decide +kernel
theorem dX5_setShipping_22 : decode cX5_setShipping 22 = .ok (.ifCond .lt 9, 3) := by decide +kernel
theorem dX5_setShipping_25 : decode cX5_setShipping 25 = .ok (.iload_n 2, 1) := by decide +kernel
theorem dX5_setShipping_26 : decode cX5_setShipping 26 = .ok (.ldc 55, 2) := by decide +kernel
theorem dX5_setShipping_28 : decode cX5_setShipping 28 = .ok (.if_icmp .le 13, 3) := by decide +kernel
theorem dX5_setShipping_31 : decode cX5_setShipping 31 = .ok (.new 65, 3) := by decide +kernel
theorem dX5_setShipping_34 : decode cX5_setShipping 34 = .ok (.dup, 1) := by decide +kernel
theorem dX5_setShipping_35 : decode cX5_setShipping 35 = .ok (.ldc 98, 2) := by decide +kernel
theorem dX5_setShipping_37 : decode cX5_setShipping 37 = .ok (.invokespecial 69, 3) := by decide +kernel
theorem dX5_setShipping_40 : decode cX5_setShipping 40 = .ok (.athrow, 1) := by decide +kernel
theorem dX5_setShipping_41 : decode cX5_setShipping 41 = .ok (.aload_n 0, 1) := by decide +kernel
theorem dX5_setShipping_42 : decode cX5_setShipping 42 = .ok (.getfield 52, 3) := by decide +kernel
theorem dX5_setShipping_45 : decode cX5_setShipping 45 = .ok (.istore_n 3, 1) := by decide +kernel
theorem dX5_setShipping_46 : decode cX5_setShipping 46 = .ok (.aload_n 0, 1) := by decide +kernel
theorem dX5_setShipping_47 : decode cX5_setShipping 47 = .ok (.iload_n 1, 1) := by decide +kernel
theorem dX5_setShipping_48 : decode cX5_setShipping 48 = .ok (.putfield 52, 3) := by decide +kernel
theorem dX5_setShipping_51 : decode cX5_setShipping 51 = .ok (.aload_n 0, 1) := by decide +kernel
theorem dX5_setShipping_52 : decode cX5_setShipping 52 = .ok (.iload_n 2, 1) := by decide +kernel
theorem dX5_setShipping_53 : decode cX5_setShipping 53 = .ok (.putfield 56, 3) := by decide +kernel
theorem dX5_setShipping_56 : decode cX5_setShipping 56 = .ok (.iload_n 3, 1) := by decide +kernel
theorem dX5_setShipping_57 : decode cX5_setShipping 57 = .ok (.ireturn, 1) := by decide +kernel
theorem dX5_addCoupon_0 : decode cX5_addCoupon 0 = .ok (.iload_n 1, 1) := by decide +kernel
theorem dX5_addCoupon_1 : decode cX5_addCoupon 1 = .ok (.iload_n 2, 1) := by decide +kernel
theorem dX5_addCoupon_2 : decode cX5_addCoupon 2 = .ok (.invokestatic 100, 3) := by decide +kernel
theorem dX5_addCoupon_5 : decode cX5_addCoupon 5 = .ok (.ifCond .ne 13, 3) := by decide +kernel
theorem dX5_addCoupon_8 : decode cX5_addCoupon 8 = .ok (.new 65, 3) := by decide +kernel
theorem dX5_addCoupon_11 : decode cX5_addCoupon 11 = .ok (.dup, 1) := by decide +kernel
theorem dX5_addCoupon_12 : decode cX5_addCoupon 12 = .ok (.ldc 104, 2) := by decide +kernel
theorem dX5_addCoupon_14 : decode cX5_addCoupon 14 = .ok (.invokespecial 69, 3) := by decide +kernel
theorem dX5_addCoupon_17 : decode cX5_addCoupon 17 = .ok (.athrow, 1) := by decide +kernel
theorem dX5_addCoupon_18 : decode cX5_addCoupon 18 = .ok (.iload_n 3, 1) := by decide +kernel
theorem dX5_addCoupon_19 : decode cX5_addCoupon 19 = .ok (.iconst 1, 1) := by decide +kernel
theorem dX5_addCoupon_20 : decode cX5_addCoupon 20 = .ok (.if_icmp .lt 10, 3) := by decide +kernel
theorem dX5_addCoupon_23 : decode cX5_addCoupon 23 = .ok (.iload_n 3, 1) := by decide +kernel
theorem dX5_addCoupon_24 : decode cX5_addCoupon 24 = .ok (.sipush 255, 3) := by decide +kernel
theorem dX5_addCoupon_27 : decode cX5_addCoupon 27 = .ok (.if_icmp .le 13, 3) := by decide +kernel
theorem dX5_addCoupon_30 : decode cX5_addCoupon 30 = .ok (.new 65, 3) := by decide +kernel
theorem dX5_addCoupon_33 : decode cX5_addCoupon 33 = .ok (.dup, 1) := by decide +kernel
theorem dX5_addCoupon_34 : decode cX5_addCoupon 34 = .ok (.ldc 106, 2) := by decide +kernel
theorem dX5_addCoupon_36 : decode cX5_addCoupon 36 = .ok (.invokespecial 69, 3) := by decide +kernel
theorem dX5_addCoupon_39 : decode cX5_addCoupon 39 = .ok (.athrow, 1) := by decide +kernel
theorem dX5_addCoupon_40 : decode cX5_addCoupon 40 = .ok (.iload 4, 2) := by decide +kernel
theorem dX5_addCoupon_42 : decode cX5_addCoupon 42 = .ok (.ifCond .lt 10, 3) := by decide +kernel
theorem dX5_addCoupon_45 : decode cX5_addCoupon 45 = .ok (.iload 4, 2) := by decide +kernel
theorem dX5_addCoupon_47 : decode cX5_addCoupon 47 = .ok (.ldc 55, 2) := by decide +kernel
theorem dX5_addCoupon_49 : decode cX5_addCoupon 49 = .ok (.if_icmp .le 13, 3) := by decide +kernel
theorem dX5_addCoupon_52 : decode cX5_addCoupon 52 = .ok (.new 65, 3) := by decide +kernel
theorem dX5_addCoupon_55 : decode cX5_addCoupon 55 = .ok (.dup, 1) := by decide +kernel
theorem dX5_addCoupon_56 : decode cX5_addCoupon 56 = .ok (.ldc 108, 2) := by decide +kernel
theorem dX5_addCoupon_58 : decode cX5_addCoupon 58 = .ok (.invokespecial 69, 3) := by decide +kernel
theorem dX5_addCoupon_61 : decode cX5_addCoupon 61 = .ok (.athrow, 1) := by decide +kernel
theorem dX5_addCoupon_62 : decode cX5_addCoupon 62 = .ok (.iload 5, 2) := by decide +kernel
theorem dX5_addCoupon_64 : decode cX5_addCoupon 64 = .ok (.ifCond .lt 9, 3) := by decide +kernel
theorem dX5_addCoupon_67 : decode cX5_addCoupon 67 = .ok (.iload 5, 2) := by decide +kernel
theorem dX5_addCoupon_69 : decode cX5_addCoupon 69 = .ok (.iconst 3, 1) := by decide +kernel
theorem dX5_addCoupon_70 : decode cX5_addCoupon 70 = .ok (.if_icmp .le 13, 3) := by decide +kernel
theorem dX5_addCoupon_73 : decode cX5_addCoupon 73 = .ok (.new 65, 3) := by decide +kernel
theorem dX5_addCoupon_76 : decode cX5_addCoupon 76 = .ok (.dup, 1) := by decide +kernel
theorem dX5_addCoupon_77 : decode cX5_addCoupon 77 = .ok (.ldc 110, 2) := by decide +kernel
theorem dX5_addCoupon_79 : decode cX5_addCoupon 79 = .ok (.invokespecial 69, 3) := by decide +kernel
theorem dX5_addCoupon_82 : decode cX5_addCoupon 82 = .ok (.athrow, 1) := by decide +kernel
theorem dX5_addCoupon_83 : decode cX5_addCoupon 83 = .ok (.aload_n 0, 1) := by decide +kernel
theorem dX5_addCoupon_84 : decode cX5_addCoupon 84 = .ok (.getfield 46, 3) := by decide +kernel
theorem dX5_addCoupon_87 : decode cX5_addCoupon 87 = .ok (.bipush 8, 2) := by decide +kernel
theorem dX5_addCoupon_89 : decode cX5_addCoupon 89 = .ok (.if_icmp .lt 13, 3) := by decide +kernel
theorem dX5_addCoupon_92 : decode cX5_addCoupon 92 = .ok (.new 72, 3) := by decide +kernel
theorem dX5_addCoupon_95 : decode cX5_addCoupon 95 = .ok (.dup, 1) := by decide +kernel
theorem dX5_addCoupon_96 : decode cX5_addCoupon 96 = .ok (.ldc 112, 2) := by decide +kernel
theorem dX5_addCoupon_98 : decode cX5_addCoupon 98 = .ok (.invokespecial 76, 3) := by decide +kernel
theorem dX5_addCoupon_101 : decode cX5_addCoupon 101 = .ok (.athrow, 1) := by decide +kernel
theorem dX5_addCoupon_102 : decode cX5_addCoupon 102 = .ok (.aload_n 0, 1) := by decide +kernel
theorem dX5_addCoupon_103 : decode cX5_addCoupon 103 = .ok (.getfield 46, 3) := by decide +kernel
theorem dX5_addCoupon_106 : decode cX5_addCoupon 106 = .ok (.istore 6, 2) := by decide +kernel
theorem dX5_addCoupon_108 : decode cX5_addCoupon 108 = .ok (.aload_n 0, 1) := by decide +kernel
theorem dX5_addCoupon_109 : decode cX5_addCoupon 109 = .ok (.getfield 18, 3) := by decide +kernel
theorem dX5_addCoupon_112 : decode cX5_addCoupon 112 = .ok (.iload 6, 2) := by decide +kernel
theorem dX5_addCoupon_114 : decode cX5_addCoupon 114 = .ok (.aaload, 1) := by decide +kernel
theorem dX5_addCoupon_115 : decode cX5_addCoupon 115 = .ok (.iload_n 1, 1) := by decide +kernel
theorem dX5_addCoupon_116 : decode cX5_addCoupon 116 = .ok (.iload_n 2, 1) := by decide +kernel
theorem dX5_addCoupon_117 : decode cX5_addCoupon 117 = .ok (.iload_n 3, 1) := by decide +kernel
theorem dX5_addCoupon_118 : decode cX5_addCoupon 118 = .ok (.iload 4, 2) := by decide +kernel
theorem dX5_addCoupon_120 : decode cX5_addCoupon 120 = .ok (.iload 5, 2) := by decide +kernel
theorem dX5_addCoupon_122 : decode cX5_addCoupon 122 = .ok (.invokevirtual 114, 3) := by decide +kernel
theorem dX5_addCoupon_125 : decode cX5_addCoupon 125 = .ok (.aload_n 0, 1) := by decide +kernel
theorem dX5_addCoupon_126 : decode cX5_addCoupon 126 = .ok (.dup, 1) := by decide +kernel
theorem dX5_addCoupon_127 : decode cX5_addCoupon 127 = .ok (.getfield 46, 3) := by decide +kernel
theorem dX5_addCoupon_130 : decode cX5_addCoupon 130 = .ok (.iconst 1, 1) := by decide +kernel
theorem dX5_addCoupon_131 : decode cX5_addCoupon 131 = .ok (.iadd, 1) := by decide +kernel
theorem dX5_addCoupon_132 : decode cX5_addCoupon 132 = .ok (.putfield 46, 3) := by decide +kernel
theorem dX5_addCoupon_135 : decode cX5_addCoupon 135 = .ok (.iload 6, 2) := by decide +kernel
theorem dX5_addCoupon_137 : decode cX5_addCoupon 137 = .ok (.ireturn, 1) := by decide +kernel
theorem dX5_isAllowed_0 : decode cX5_isAllowed 0 = .ok (.aload_n 0, 1) := by decide +kernel
theorem dX5_isAllowed_1 : decode cX5_isAllowed 1 = .ok (.iload_n 1, 1) := by decide +kernel
theorem dX5_isAllowed_2 : decode cX5_isAllowed 2 = .ok (.invokevirtual 141, 3) := by decide +kernel
theorem dX5_isAllowed_5 : decode cX5_isAllowed 5 = .ok (.aload_n 0, 1) := by decide +kernel
theorem dX5_isAllowed_6 : decode cX5_isAllowed 6 = .ok (.iload_n 1, 1) := by decide +kernel
theorem dX5_isAllowed_7 : decode cX5_isAllowed 7 = .ok (.invokevirtual 144, 3) := by decide +kernel
theorem dX5_isAllowed_10 : decode cX5_isAllowed 10 = .ok (.ireturn, 1) := by decide +kernel
theorem dX5_goods_0 : decode cX5_goods 0 = .ok (.aload_n 0, 1) := by decide +kernel
theorem dX5_goods_1 : decode cX5_goods 1 = .ok (.iload_n 1, 1) := by decide +kernel
theorem dX5_goods_2 : decode cX5_goods 2 = .ok (.invokevirtual 141, 3) := by decide +kernel
theorem dX5_goods_5 : decode cX5_goods 5 = .ok (.aload_n 0, 1) := by decide +kernel
theorem dX5_goods_6 : decode cX5_goods 6 = .ok (.iload_n 1, 1) := by decide +kernel
theorem dX5_goods_7 : decode cX5_goods 7 = .ok (.invokevirtual 148, 3) := by decide +kernel
theorem dX5_goods_10 : decode cX5_goods 10 = .ok (.aload_n 0, 1) := by decide +kernel
theorem dX5_goods_11 : decode cX5_goods 11 = .ok (.aload_n 0, 1) := by decide +kernel
theorem dX5_goods_12 : decode cX5_goods 12 = .ok (.getfield 12, 3) := by decide +kernel
theorem dX5_goods_15 : decode cX5_goods 15 = .ok (.iload_n 1, 1) := by decide +kernel
theorem dX5_goods_16 : decode cX5_goods 16 = .ok (.invokevirtual 151, 3) := by decide +kernel
theorem dX5_goods_19 : decode cX5_goods 19 = .ok (.ireturn, 1) := by decide +kernel
theorem dX5_total_0 : decode cX5_total 0 = .ok (.aload_n 0, 1) := by decide +kernel
theorem dX5_total_1 : decode cX5_total 1 = .ok (.iload_n 1, 1) := by decide +kernel
theorem dX5_total_2 : decode cX5_total 2 = .ok (.invokevirtual 141, 3) := by decide +kernel
theorem dX5_total_5 : decode cX5_total 5 = .ok (.aload_n 0, 1) := by decide +kernel
theorem dX5_total_6 : decode cX5_total 6 = .ok (.iload_n 1, 1) := by decide +kernel
theorem dX5_total_7 : decode cX5_total 7 = .ok (.invokevirtual 148, 3) := by decide +kernel
theorem dX5_total_10 : decode cX5_total 10 = .ok (.aload_n 0, 1) := by decide +kernel
theorem dX5_total_11 : decode cX5_total 11 = .ok (.aload_n 0, 1) := by decide +kernel
theorem dX5_total_12 : decode cX5_total 12 = .ok (.getfield 12, 3) := by decide +kernel
theorem dX5_total_15 : decode cX5_total 15 = .ok (.iload_n 1, 1) := by decide +kernel
theorem dX5_total_16 : decode cX5_total 16 = .ok (.invokevirtual 151, 3) := by decide +kernel
theorem dX5_total_19 : decode cX5_total 19 = .ok (.istore_n 2, 1) := by decide +kernel
theorem dX5_total_20 : decode cX5_total 20 = .ok (.iload_n 2, 1) := by decide +kernel
theorem dX5_total_21 : decode cX5_total 21 = .ok (.aload_n 0, 1) := by decide +kernel
theorem dX5_total_22 : decode cX5_total 22 = .ok (.iload_n 1, 1) := by decide +kernel
theorem dX5_total_23 : decode cX5_total 23 = .ok (.iload_n 2, 1) := by decide +kernel
theorem dX5_total_24 : decode cX5_total 24 = .ok (.invokevirtual 155, 3) := by decide +kernel
theorem dX5_total_27 : decode cX5_total 27 = .ok (.iadd, 1) := by decide +kernel
theorem dX5_total_28 : decode cX5_total 28 = .ok (.ireturn, 1) := by decide +kernel
theorem dX5_best_0 : decode cX5_best 0 = .ok (.aload_n 0, 1) := by decide +kernel
theorem dX5_best_1 : decode cX5_best 1 = .ok (.iconst 0, 1) := by decide +kernel
theorem dX5_best_2 : decode cX5_best 2 = .ok (.invokevirtual 165, 3) := by decide +kernel
theorem dX5_best_5 : decode cX5_best 5 = .ok (.aload_n 0, 1) := by decide +kernel
theorem dX5_best_6 : decode cX5_best 6 = .ok (.getfield 38, 3) := by decide +kernel
theorem dX5_best_9 : decode cX5_best 9 = .ok (.getfield 168, 3) := by decide +kernel
theorem dX5_best_12 : decode cX5_best 12 = .ok (.ireturn, 1) := by decide +kernel
theorem dX5_buy_0 : decode cX5_buy 0 = .ok (.aload_n 0, 1) := by decide +kernel
theorem dX5_buy_1 : decode cX5_buy 1 = .ok (.iload_n 1, 1) := by decide +kernel
theorem dX5_buy_2 : decode cX5_buy 2 = .ok (.invokevirtual 141, 3) := by decide +kernel
theorem dX5_buy_5 : decode cX5_buy 5 = .ok (.aload_n 0, 1) := by decide +kernel
theorem dX5_buy_6 : decode cX5_buy 6 = .ok (.iload_n 1, 1) := by decide +kernel
theorem dX5_buy_7 : decode cX5_buy 7 = .ok (.invokevirtual 148, 3) := by decide +kernel
theorem dX5_buy_10 : decode cX5_buy 10 = .ok (.aload_n 0, 1) := by decide +kernel
theorem dX5_buy_11 : decode cX5_buy 11 = .ok (.getfield 12, 3) := by decide +kernel
theorem dX5_buy_14 : decode cX5_buy 14 = .ok (.invokevirtual 177, 3) := by decide +kernel
theorem dX5_buy_17 : decode cX5_buy 17 = .ok (.ifCond .ne 13, 3) := by decide +kernel
theorem dX5_buy_20 : decode cX5_buy 20 = .ok (.new 72, 3) := by decide +kernel
theorem dX5_buy_23 : decode cX5_buy 23 = .ok (.dup, 1) := by decide +kernel
theorem dX5_buy_24 : decode cX5_buy 24 = .ok (.ldc 181, 2) := by decide +kernel
theorem dX5_buy_26 : decode cX5_buy 26 = .ok (.invokespecial 76, 3) := by decide +kernel
theorem dX5_buy_29 : decode cX5_buy 29 = .ok (.athrow, 1) := by decide +kernel
theorem dX5_buy_30 : decode cX5_buy 30 = .ok (.aload_n 0, 1) := by decide +kernel
theorem dX5_buy_31 : decode cX5_buy 31 = .ok (.getfield 49, 3) := by decide +kernel
theorem dX5_buy_34 : decode cX5_buy 34 = .ok (.bipush 12, 2) := by decide +kernel
theorem dX5_buy_36 : decode cX5_buy 36 = .ok (.if_icmp .lt 13, 3) := by decide +kernel
theorem dX5_buy_39 : decode cX5_buy 39 = .ok (.new 72, 3) := by decide +kernel
theorem dX5_buy_42 : decode cX5_buy 42 = .ok (.dup, 1) := by decide +kernel
theorem dX5_buy_43 : decode cX5_buy 43 = .ok (.ldc 183, 2) := by decide +kernel
theorem dX5_buy_45 : decode cX5_buy 45 = .ok (.invokespecial 76, 3) := by decide +kernel
theorem dX5_buy_48 : decode cX5_buy 48 = .ok (.athrow, 1) := by decide +kernel
theorem dX5_buy_49 : decode cX5_buy 49 = .ok (.aload_n 0, 1) := by decide +kernel
theorem dX5_buy_50 : decode cX5_buy 50 = .ok (.getfield 49, 3) := by decide +kernel
theorem dX5_buy_53 : decode cX5_buy 53 = .ok (.istore_n 2, 1) := by decide +kernel
theorem dX5_buy_54 : decode cX5_buy 54 = .ok (.aload_n 0, 1) := by decide +kernel
theorem dX5_buy_55 : decode cX5_buy 55 = .ok (.aload_n 0, 1) := by decide +kernel
theorem dX5_buy_56 : decode cX5_buy 56 = .ok (.getfield 12, 3) := by decide +kernel
theorem dX5_buy_59 : decode cX5_buy 59 = .ok (.iload_n 1, 1) := by decide +kernel
theorem dX5_buy_60 : decode cX5_buy 60 = .ok (.invokevirtual 151, 3) := by decide +kernel
theorem dX5_buy_63 : decode cX5_buy 63 = .ok (.istore_n 3, 1) := by decide +kernel
theorem dX5_buy_64 : decode cX5_buy 64 = .ok (.aload_n 0, 1) := by decide +kernel
theorem dX5_buy_65 : decode cX5_buy 65 = .ok (.getfield 24, 3) := by decide +kernel
theorem dX5_buy_68 : decode cX5_buy 68 = .ok (.iload_n 2, 1) := by decide +kernel
theorem dX5_buy_69 : decode cX5_buy 69 = .ok (.aaload, 1) := by decide +kernel
theorem dX5_buy_70 : decode cX5_buy 70 = .ok (.aload_n 0, 1) := by decide +kernel
theorem dX5_buy_71 : decode cX5_buy 71 = .ok (.getfield 12, 3) := by decide +kernel
theorem dX5_buy_74 : decode cX5_buy 74 = .ok (.iload_n 1, 1) := by decide +kernel
theorem dX5_buy_75 : decode cX5_buy 75 = .ok (.aload_n 0, 1) := by decide +kernel
theorem dX5_buy_76 : decode cX5_buy 76 = .ok (.iload_n 1, 1) := by decide +kernel
theorem dX5_buy_77 : decode cX5_buy 77 = .ok (.iload_n 3, 1) := by decide +kernel
theorem dX5_buy_78 : decode cX5_buy 78 = .ok (.invokevirtual 155, 3) := by decide +kernel
theorem dX5_buy_81 : decode cX5_buy 81 = .ok (.iload_n 3, 1) := by decide +kernel
theorem dX5_buy_82 : decode cX5_buy 82 = .ok (.invokevirtual 185, 3) := by decide +kernel
theorem dX5_buy_85 : decode cX5_buy 85 = .ok (.aload_n 0, 1) := by decide +kernel
theorem dX5_buy_86 : decode cX5_buy 86 = .ok (.dup, 1) := by decide +kernel
theorem dX5_buy_87 : decode cX5_buy 87 = .ok (.getfield 49, 3) := by decide +kernel
theorem dX5_buy_90 : decode cX5_buy 90 = .ok (.iconst 1, 1) := by decide +kernel
theorem dX5_buy_91 : decode cX5_buy 91 = .ok (.iadd, 1) := by decide +kernel
theorem dX5_buy_92 : decode cX5_buy 92 = .ok (.putfield 49, 3) := by decide +kernel
theorem dX5_buy_95 : decode cX5_buy 95 = .ok (.aload_n 0, 1) := by decide +kernel
theorem dX5_buy_96 : decode cX5_buy 96 = .ok (.iload_n 1, 1) := by decide +kernel
theorem dX5_buy_97 : decode cX5_buy 97 = .ok (.invokevirtual 188, 3) := by decide +kernel
theorem dX5_buy_100 : decode cX5_buy 100 = .ok (.aload_n 0, 1) := by decide +kernel
theorem dX5_buy_101 : decode cX5_buy 101 = .ok (.getfield 12, 3) := by decide +kernel
theorem dX5_buy_104 : decode cX5_buy 104 = .ok (.invokevirtual 191, 3) := by decide +kernel
theorem dX5_buy_107 : decode cX5_buy 107 = .ok (.iload_n 2, 1) := by decide +kernel
theorem dX5_buy_108 : decode cX5_buy 108 = .ok (.ireturn, 1) := by decide +kernel
theorem dX5_giveBack_0 : decode cX5_giveBack 0 = .ok (.aload_n 0, 1) := by decide +kernel
theorem dX5_giveBack_1 : decode cX5_giveBack 1 = .ok (.iload_n 1, 1) := by decide +kernel
theorem dX5_giveBack_2 : decode cX5_giveBack 2 = .ok (.invokevirtual 194, 3) := by decide +kernel
theorem dX5_giveBack_5 : decode cX5_giveBack 5 = .ok (.aload_n 0, 1) := by decide +kernel
theorem dX5_giveBack_6 : decode cX5_giveBack 6 = .ok (.iload_n 2, 1) := by decide +kernel
theorem dX5_giveBack_7 : decode cX5_giveBack 7 = .ok (.invokevirtual 84, 3) := by decide +kernel
theorem dX5_giveBack_10 : decode cX5_giveBack 10 = .ok (.aload_n 0, 1) := by decide +kernel
theorem dX5_giveBack_11 : decode cX5_giveBack 11 = .ok (.getfield 24, 3) := by decide +kernel
theorem dX5_giveBack_14 : decode cX5_giveBack 14 = .ok (.iload_n 1, 1) := by decide +kernel
theorem dX5_giveBack_15 : decode cX5_giveBack 15 = .ok (.aaload, 1) := by decide +kernel
theorem dX5_giveBack_16 : decode cX5_giveBack 16 = .ok (.astore 4, 2) := by decide +kernel
theorem dX5_giveBack_18 : decode cX5_giveBack 18 = .ok (.iload_n 3, 1) := by decide +kernel
theorem dX5_giveBack_19 : decode cX5_giveBack 19 = .ok (.iconst 1, 1) := by decide +kernel
theorem dX5_giveBack_20 : decode cX5_giveBack 20 = .ok (.if_icmp .lt 17, 3) := by decide +kernel
theorem dX5_giveBack_23 : decode cX5_giveBack 23 = .ok (.iload_n 3, 1) := by decide +kernel
theorem dX5_giveBack_24 : decode cX5_giveBack 24 = .ok (.aload 4, 2) := by decide +kernel
theorem dX5_giveBack_26 : decode cX5_giveBack 26 = .ok (.getfield 197, 3) := by decide +kernel
theorem dX5_giveBack_29 : decode cX5_giveBack 29 = .ok (.getfield 89, 3) := by decide +kernel
theorem dX5_giveBack_32 : decode cX5_giveBack 32 = .ok (.iload_n 2, 1) := by decide +kernel
theorem dX5_giveBack_33 : decode cX5_giveBack 33 = .ok (.iaload, 1) := by decide +kernel
theorem dX5_giveBack_34 : decode cX5_giveBack 34 = .ok (.if_icmp .le 13, 3) := by decide +kernel
theorem dX5_giveBack_37 : decode cX5_giveBack 37 = .ok (.new 65, 3) := by decide +kernel
theorem dX5_giveBack_40 : decode cX5_giveBack 40 = .ok (.dup, 1) := by decide +kernel
theorem dX5_giveBack_41 : decode cX5_giveBack 41 = .ok (.ldc 200, 2) := by decide +kernel
theorem dX5_giveBack_43 : decode cX5_giveBack 43 = .ok (.invokespecial 69, 3) := by decide +kernel
theorem dX5_giveBack_46 : decode cX5_giveBack 46 = .ok (.athrow, 1) := by decide +kernel
theorem dX5_giveBack_47 : decode cX5_giveBack 47 = .ok (.aload 4, 2) := by decide +kernel
theorem dX5_giveBack_49 : decode cX5_giveBack 49 = .ok (.getfield 197, 3) := by decide +kernel
theorem dX5_giveBack_52 : decode cX5_giveBack 52 = .ok (.getfield 89, 3) := by decide +kernel
theorem dX5_giveBack_55 : decode cX5_giveBack 55 = .ok (.iload_n 2, 1) := by decide +kernel
theorem dX5_giveBack_56 : decode cX5_giveBack 56 = .ok (.dup2, 1) := by decide +kernel
theorem dX5_giveBack_57 : decode cX5_giveBack 57 = .ok (.iaload, 1) := by decide +kernel
theorem dX5_giveBack_58 : decode cX5_giveBack 58 = .ok (.iload_n 3, 1) := by decide +kernel
theorem dX5_giveBack_59 : decode cX5_giveBack 59 = .ok (.isub, 1) := by decide +kernel
theorem dX5_giveBack_60 : decode cX5_giveBack 60 = .ok (.iastore, 1) := by decide +kernel
theorem dX5_giveBack_61 : decode cX5_giveBack 61 = .ok (.aload 4, 2) := by decide +kernel
theorem dX5_giveBack_63 : decode cX5_giveBack 63 = .ok (.aload_n 0, 1) := by decide +kernel
theorem dX5_giveBack_64 : decode cX5_giveBack 64 = .ok (.aload 4, 2) := by decide +kernel
theorem dX5_giveBack_66 : decode cX5_giveBack 66 = .ok (.invokevirtual 202, 3) := by decide +kernel
theorem dX5_giveBack_69 : decode cX5_giveBack 69 = .ok (.putfield 206, 3) := by decide +kernel
theorem dX5_giveBack_72 : decode cX5_giveBack 72 = .ok (.aload_n 0, 1) := by decide +kernel
theorem dX5_giveBack_73 : decode cX5_giveBack 73 = .ok (.aload 4, 2) := by decide +kernel
theorem dX5_giveBack_75 : decode cX5_giveBack 75 = .ok (.getfield 197, 3) := by decide +kernel
theorem dX5_giveBack_78 : decode cX5_giveBack 78 = .ok (.aload 4, 2) := by decide +kernel
theorem dX5_giveBack_80 : decode cX5_giveBack 80 = .ok (.getfield 206, 3) := by decide +kernel
theorem dX5_giveBack_83 : decode cX5_giveBack 83 = .ok (.invokevirtual 151, 3) := by decide +kernel
theorem dX5_giveBack_86 : decode cX5_giveBack 86 = .ok (.istore 5, 2) := by decide +kernel
theorem dX5_giveBack_88 : decode cX5_giveBack 88 = .ok (.iload 5, 2) := by decide +kernel
theorem dX5_giveBack_90 : decode cX5_giveBack 90 = .ok (.aload 4, 2) := by decide +kernel
theorem dX5_giveBack_92 : decode cX5_giveBack 92 = .ok (.getfield 209, 3) := by decide +kernel
theorem dX5_giveBack_95 : decode cX5_giveBack 95 = .ok (.if_icmp .lt 5, 3) := by decide +kernel
theorem dX5_giveBack_98 : decode cX5_giveBack 98 = .ok (.iconst 0, 1) := by decide +kernel
theorem dX5_giveBack_99 : decode cX5_giveBack 99 = .ok (.ireturn, 1) := by decide +kernel
theorem dX5_giveBack_100 : decode cX5_giveBack 100 = .ok (.aload 4, 2) := by decide +kernel
theorem dX5_giveBack_102 : decode cX5_giveBack 102 = .ok (.getfield 209, 3) := by decide +kernel
theorem dX5_giveBack_105 : decode cX5_giveBack 105 = .ok (.iload 5, 2) := by decide +kernel
theorem dX5_giveBack_107 : decode cX5_giveBack 107 = .ok (.isub, 1) := by decide +kernel
theorem dX5_giveBack_108 : decode cX5_giveBack 108 = .ok (.istore 6, 2) := by decide +kernel
theorem dX5_giveBack_110 : decode cX5_giveBack 110 = .ok (.aload 4, 2) := by decide +kernel
theorem dX5_giveBack_112 : decode cX5_giveBack 112 = .ok (.iload 5, 2) := by decide +kernel
theorem dX5_giveBack_114 : decode cX5_giveBack 114 = .ok (.putfield 209, 3) := by decide +kernel
theorem dX5_giveBack_117 : decode cX5_giveBack 117 = .ok (.iload 6, 2) := by decide +kernel
theorem dX5_giveBack_119 : decode cX5_giveBack 119 = .ok (.ireturn, 1) := by decide +kernel
theorem dX5_order_0 : decode cX5_order 0 = .ok (.aload_n 0, 1) := by decide +kernel
theorem dX5_order_1 : decode cX5_order 1 = .ok (.iload_n 1, 1) := by decide +kernel
theorem dX5_order_2 : decode cX5_order 2 = .ok (.invokevirtual 194, 3) := by decide +kernel
theorem dX5_order_5 : decode cX5_order 5 = .ok (.iload_n 2, 1) := by decide +kernel
theorem dX5_order_6 : decode cX5_order 6 = .ok (.ifCond .lt 8, 3) := by decide +kernel
theorem dX5_order_9 : decode cX5_order 9 = .ok (.iload_n 2, 1) := by decide +kernel
theorem dX5_order_10 : decode cX5_order 10 = .ok (.iconst 5, 1) := by decide +kernel
theorem dX5_order_11 : decode cX5_order 11 = .ok (.if_icmp .lt 13, 3) := by decide +kernel
theorem dX5_order_14 : decode cX5_order 14 = .ok (.new 212, 3) := by decide +kernel
theorem dX5_order_17 : decode cX5_order 17 = .ok (.dup, 1) := by decide +kernel
theorem dX5_order_18 : decode cX5_order 18 = .ok (.ldc 214, 2) := by decide +kernel
theorem dX5_order_20 : decode cX5_order 20 = .ok (.invokespecial 216, 3) := by decide +kernel
theorem dX5_order_23 : decode cX5_order 23 = .ok (.athrow, 1) := by decide +kernel
theorem dX5_order_24 : decode cX5_order 24 = .ok (.aload_n 0, 1) := by decide +kernel
theorem dX5_order_25 : decode cX5_order 25 = .ok (.getfield 24, 3) := by decide +kernel
theorem dX5_order_28 : decode cX5_order 28 = .ok (.iload_n 1, 1) := by decide +kernel
theorem dX5_order_29 : decode cX5_order 29 = .ok (.aaload, 1) := by decide +kernel
theorem dX5_order_30 : decode cX5_order 30 = .ok (.iload_n 2, 1) := by decide +kernel
theorem dX5_order_31 : decode cX5_order 31 = .ok (.invokevirtual 217, 3) := by decide +kernel
theorem dX5_order_34 : decode cX5_order 34 = .ok (.ireturn, 1) := by decide +kernel
theorem dX5_pieces_0 : decode cX5_pieces 0 = .ok (.aload_n 0, 1) := by decide +kernel
theorem dX5_pieces_1 : decode cX5_pieces 1 = .ok (.iload_n 1, 1) := by decide +kernel
theorem dX5_pieces_2 : decode cX5_pieces 2 = .ok (.invokevirtual 194, 3) := by decide +kernel
theorem dX5_pieces_5 : decode cX5_pieces 5 = .ok (.aload_n 0, 1) := by decide +kernel
theorem dX5_pieces_6 : decode cX5_pieces 6 = .ok (.iload_n 2, 1) := by decide +kernel
theorem dX5_pieces_7 : decode cX5_pieces 7 = .ok (.invokevirtual 84, 3) := by decide +kernel
theorem dX5_pieces_10 : decode cX5_pieces 10 = .ok (.aload_n 0, 1) := by decide +kernel
theorem dX5_pieces_11 : decode cX5_pieces 11 = .ok (.getfield 24, 3) := by decide +kernel
theorem dX5_pieces_14 : decode cX5_pieces 14 = .ok (.iload_n 1, 1) := by decide +kernel
theorem dX5_pieces_15 : decode cX5_pieces 15 = .ok (.aaload, 1) := by decide +kernel
theorem dX5_pieces_16 : decode cX5_pieces 16 = .ok (.getfield 197, 3) := by decide +kernel
theorem dX5_pieces_19 : decode cX5_pieces 19 = .ok (.getfield 89, 3) := by decide +kernel
theorem dX5_pieces_22 : decode cX5_pieces 22 = .ok (.iload_n 2, 1) := by decide +kernel
theorem dX5_pieces_23 : decode cX5_pieces 23 = .ok (.iaload, 1) := by decide +kernel
theorem dX5_pieces_24 : decode cX5_pieces 24 = .ok (.ireturn, 1) := by decide +kernel
theorem dX5_needArticle_0 : decode cX5_needArticle 0 = .ok (.iload_n 1, 1) := by decide +kernel
theorem dX5_needArticle_1 : decode cX5_needArticle 1 = .ok (.ifCond .lt 11, 3) := by decide +kernel
theorem dX5_needArticle_4 : decode cX5_needArticle 4 = .ok (.iload_n 1, 1) := by decide +kernel
theorem dX5_needArticle_5 : decode cX5_needArticle 5 = .ok (.aload_n 0, 1) := by decide +kernel
theorem dX5_needArticle_6 : decode cX5_needArticle 6 = .ok (.getfield 42, 3) := by decide +kernel
theorem dX5_needArticle_9 : decode cX5_needArticle 9 = .ok (.if_icmp .lt 13, 3) := by decide +kernel
theorem dX5_needArticle_12 : decode cX5_needArticle 12 = .ok (.new 212, 3) := by decide +kernel
theorem dX5_needArticle_15 : decode cX5_needArticle 15 = .ok (.dup, 1) := by decide +kernel
theorem dX5_needArticle_16 : decode cX5_needArticle 16 = .ok (.ldc 236, 2) := by decide +kernel
theorem dX5_needArticle_18 : decode cX5_needArticle 18 = .ok (.invokespecial 216, 3) := by decide +kernel
theorem dX5_needArticle_21 : decode cX5_needArticle 21 = .ok (.athrow, 1) := by decide +kernel
theorem dX5_needArticle_22 : decode cX5_needArticle 22 = .ok (.return_, 1) := by decide +kernel
theorem dX5_needOrder_0 : decode cX5_needOrder 0 = .ok (.iload_n 1, 1) := by decide +kernel
theorem dX5_needOrder_1 : decode cX5_needOrder 1 = .ok (.ifCond .lt 11, 3) := by decide +kernel
theorem dX5_needOrder_4 : decode cX5_needOrder 4 = .ok (.iload_n 1, 1) := by decide +kernel
theorem dX5_needOrder_5 : decode cX5_needOrder 5 = .ok (.aload_n 0, 1) := by decide +kernel
theorem dX5_needOrder_6 : decode cX5_needOrder 6 = .ok (.getfield 49, 3) := by decide +kernel
theorem dX5_needOrder_9 : decode cX5_needOrder 9 = .ok (.if_icmp .lt 13, 3) := by decide +kernel
theorem dX5_needOrder_12 : decode cX5_needOrder 12 = .ok (.new 212, 3) := by decide +kernel
theorem dX5_needOrder_15 : decode cX5_needOrder 15 = .ok (.dup, 1) := by decide +kernel
theorem dX5_needOrder_16 : decode cX5_needOrder 16 = .ok (.ldc 240, 2) := by decide +kernel
theorem dX5_needOrder_18 : decode cX5_needOrder 18 = .ok (.invokespecial 216, 3) := by decide +kernel
theorem dX5_needOrder_21 : decode cX5_needOrder 21 = .ok (.athrow, 1) := by decide +kernel
theorem dX5_needOrder_22 : decode cX5_needOrder 22 = .ok (.return_, 1) := by decide +kernel
theorem dX5_needPrice_0 : decode cX5_needPrice 0 = .ok (.iload_n 0, 1) := by decide +kernel
theorem dX5_needPrice_1 : decode cX5_needPrice 1 = .ok (.iconst 1, 1) := by decide +kernel
theorem dX5_needPrice_2 : decode cX5_needPrice 2 = .ok (.if_icmp .lt 10, 3) := by decide +kernel
theorem dX5_needPrice_5 : decode cX5_needPrice 5 = .ok (.iload_n 0, 1) := by decide +kernel
theorem dX5_needPrice_6 : decode cX5_needPrice 6 = .ok (.sipush 10000, 3) := by decide +kernel
theorem dX5_needPrice_9 : decode cX5_needPrice 9 = .ok (.if_icmp .le 13, 3) := by decide +kernel
theorem dX5_needPrice_12 : decode cX5_needPrice 12 = .ok (.new 65, 3) := by decide +kernel
theorem dX5_needPrice_15 : decode cX5_needPrice 15 = .ok (.dup, 1) := by decide +kernel
theorem dX5_needPrice_16 : decode cX5_needPrice 16 = .ok (.ldc 242, 2) := by decide +kernel
theorem dX5_needPrice_18 : decode cX5_needPrice 18 = .ok (.invokespecial 69, 3) := by decide +kernel
theorem dX5_needPrice_21 : decode cX5_needPrice 21 = .ok (.athrow, 1) := by decide +kernel
theorem dX5_needPrice_22 : decode cX5_needPrice 22 = .ok (.return_, 1) := by decide +kernel
theorem dX5_needCoupons_0 : decode cX5_needCoupons 0 = .ok (.iload_n 1, 1) := by decide +kernel
theorem dX5_needCoupons_1 : decode cX5_needCoupons 1 = .ok (.ifCond .lt 13, 3) := by decide +kernel
theorem dX5_needCoupons_4 : decode cX5_needCoupons 4 = .ok (.iload_n 1, 1) := by decide +kernel
theorem dX5_needCoupons_5 : decode cX5_needCoupons 5 = .ok (.iconst 1, 1) := by decide +kernel
theorem dX5_needCoupons_6 : decode cX5_needCoupons 6 = .ok (.aload_n 0, 1) := by decide +kernel
theorem dX5_needCoupons_7 : decode cX5_needCoupons 7 = .ok (.getfield 46, 3) := by decide +kernel
theorem dX5_needCoupons_10 : decode cX5_needCoupons 10 = .ok (.ishl, 1) := by decide +kernel
theorem dX5_needCoupons_11 : decode cX5_needCoupons 11 = .ok (.if_icmp .lt 13, 3) := by decide +kernel
theorem dX5_needCoupons_14 : decode cX5_needCoupons 14 = .ok (.new 65, 3) := by decide +kernel
theorem dX5_needCoupons_17 : decode cX5_needCoupons 17 = .ok (.dup, 1) := by decide +kernel
theorem dX5_needCoupons_18 : decode cX5_needCoupons 18 = .ok (.ldc 244, 2) := by decide +kernel
theorem dX5_needCoupons_20 : decode cX5_needCoupons 20 = .ok (.invokespecial 69, 3) := by decide +kernel
theorem dX5_needCoupons_23 : decode cX5_needCoupons 23 = .ok (.athrow, 1) := by decide +kernel
theorem dX5_needCoupons_24 : decode cX5_needCoupons 24 = .ok (.return_, 1) := by decide +kernel
theorem dX5_needAllowed_0 : decode cX5_needAllowed 0 = .ok (.aload_n 0, 1) := by decide +kernel
theorem dX5_needAllowed_1 : decode cX5_needAllowed 1 = .ok (.iload_n 1, 1) := by decide +kernel
theorem dX5_needAllowed_2 : decode cX5_needAllowed 2 = .ok (.invokevirtual 144, 3) := by decide +kernel
theorem dX5_needAllowed_5 : decode cX5_needAllowed 5 = .ok (.ifCond .ne 13, 3) := by decide +kernel
theorem dX5_needAllowed_8 : decode cX5_needAllowed 8 = .ok (.new 72, 3) := by decide +kernel
theorem dX5_needAllowed_11 : decode cX5_needAllowed 11 = .ok (.dup, 1) := by decide +kernel
theorem dX5_needAllowed_12 : decode cX5_needAllowed 12 = .ok (.ldc 246, 2) := by decide +kernel
theorem dX5_needAllowed_14 : decode cX5_needAllowed 14 = .ok (.invokespecial 76, 3) := by decide +kernel
theorem dX5_needAllowed_17 : decode cX5_needAllowed 17 = .ok (.athrow, 1) := by decide +kernel
theorem dX5_needAllowed_18 : decode cX5_needAllowed 18 = .ok (.return_, 1) := by decide +kernel
theorem dX5_isValueOfKind_0 : decode cX5_isValueOfKind 0 = .ok (.iload_n 0, 1) := by decide +kernel
theorem dX5_isValueOfKind_1 : decode cX5_isValueOfKind 1 = .ok (.tableswitch 92 0 3 #[31, 48, 65, 82], 31) := by decide +kernel
theorem dX5_isValueOfKind_32 : decode cX5_isValueOfKind 32 = .ok (.iload_n 1, 1) := by decide +kernel
theorem dX5_isValueOfKind_33 : decode cX5_isValueOfKind 33 = .ok (.iconst 1, 1) := by decide +kernel
theorem dX5_isValueOfKind_34 : decode cX5_isValueOfKind 34 = .ok (.if_icmp .lt 13, 3) := by decide +kernel
theorem dX5_isValueOfKind_37 : decode cX5_isValueOfKind 37 = .ok (.iload_n 1, 1) := by decide +kernel
theorem dX5_isValueOfKind_38 : decode cX5_isValueOfKind 38 = .ok (.bipush 100, 2) := by decide +kernel
theorem dX5_isValueOfKind_40 : decode cX5_isValueOfKind 40 = .ok (.if_icmp .gt 7, 3) := by decide +kernel
theorem dX5_isValueOfKind_43 : decode cX5_isValueOfKind 43 = .ok (.iconst 1, 1) := by decide +kernel
theorem dX5_isValueOfKind_44 : decode cX5_isValueOfKind 44 = .ok (.goto 4, 3) := by decide +kernel
theorem dX5_isValueOfKind_47 : decode cX5_isValueOfKind 47 = .ok (.iconst 0, 1) := by decide +kernel
theorem dX5_isValueOfKind_48 : decode cX5_isValueOfKind 48 = .ok (.ireturn, 1) := by decide +kernel
theorem dX5_isValueOfKind_49 : decode cX5_isValueOfKind 49 = .ok (.iload_n 1, 1) := by decide +kernel
theorem dX5_isValueOfKind_50 : decode cX5_isValueOfKind 50 = .ok (.iconst 1, 1) := by decide +kernel
theorem dX5_isValueOfKind_51 : decode cX5_isValueOfKind 51 = .ok (.if_icmp .lt 13, 3) := by decide +kernel
theorem dX5_isValueOfKind_54 : decode cX5_isValueOfKind 54 = .ok (.iload_n 1, 1) := by decide +kernel
theorem dX5_isValueOfKind_55 : decode cX5_isValueOfKind 55 = .ok (.ldc 248, 2) := by decide +kernel
theorem dX5_isValueOfKind_57 : decode cX5_isValueOfKind 57 = .ok (.if_icmp .gt 7, 3) := by decide +kernel
theorem dX5_isValueOfKind_60 : decode cX5_isValueOfKind 60 = .ok (.iconst 1, 1) := by decide +kernel
theorem dX5_isValueOfKind_61 : decode cX5_isValueOfKind 61 = .ok (.goto 4, 3) := by decide +kernel
theorem dX5_isValueOfKind_64 : decode cX5_isValueOfKind 64 = .ok (.iconst 0, 1) := by decide +kernel
theorem dX5_isValueOfKind_65 : decode cX5_isValueOfKind 65 = .ok (.ireturn, 1) := by decide +kernel
theorem dX5_isValueOfKind_66 : decode cX5_isValueOfKind 66 = .ok (.iload_n 1, 1) := by decide +kernel
theorem dX5_isValueOfKind_67 : decode cX5_isValueOfKind 67 = .ok (.iconst 2, 1) := by decide +kernel
theorem dX5_isValueOfKind_68 : decode cX5_isValueOfKind 68 = .ok (.if_icmp .lt 13, 3) := by decide +kernel
theorem dX5_isValueOfKind_71 : decode cX5_isValueOfKind 71 = .ok (.iload_n 1, 1) := by decide +kernel
theorem dX5_isValueOfKind_72 : decode cX5_isValueOfKind 72 = .ok (.bipush 9, 2) := by decide +kernel
theorem dX5_isValueOfKind_74 : decode cX5_isValueOfKind 74 = .ok (.if_icmp .gt 7, 3) := by decide +kernel
theorem dX5_isValueOfKind_77 : decode cX5_isValueOfKind 77 = .ok (.iconst 1, 1) := by decide +kernel
theorem dX5_isValueOfKind_78 : decode cX5_isValueOfKind 78 = .ok (.goto 4, 3) := by decide +kernel
theorem dX5_isValueOfKind_81 : decode cX5_isValueOfKind 81 = .ok (.iconst 0, 1) := by decide +kernel
theorem dX5_isValueOfKind_82 : decode cX5_isValueOfKind 82 = .ok (.ireturn, 1) := by decide +kernel
theorem dX5_isValueOfKind_83 : decode cX5_isValueOfKind 83 = .ok (.iload_n 1, 1) := by decide +kernel
theorem dX5_isValueOfKind_84 : decode cX5_isValueOfKind 84 = .ok (.ifCond .ne 7, 3) := by decide +kernel
theorem dX5_isValueOfKind_87 : decode cX5_isValueOfKind 87 = .ok (.iconst 1, 1) := by decide +kernel
theorem dX5_isValueOfKind_88 : decode cX5_isValueOfKind 88 = .ok (.goto 4, 3) := by decide +kernel
theorem dX5_isValueOfKind_91 : decode cX5_isValueOfKind 91 = .ok (.iconst 0, 1) := by decide +kernel
theorem dX5_isValueOfKind_92 : decode cX5_isValueOfKind 92 = .ok (.ireturn, 1) := by decide +kernel
theorem dX5_isValueOfKind_93 : decode cX5_isValueOfKind 93 = .ok (.iconst 0, 1) := by decide +kernel
theorem dX5_isValueOfKind_94 : decode cX5_isValueOfKind 94 = .ok (.ireturn, 1) := by decide +kernel
theorem dX5_contains_0 : decode cX5_contains 0 = .ok (.iload_n 0, 1) := by decide +kernel
theorem dX5_contains_1 : decode cX5_contains 1 = .ok (.iload_n 1, 1) := by decide +kernel
theorem dX5_contains_2 : decode cX5_contains 2 = .ok (.ishr, 1) := by decide +kernel
theorem dX5_contains_3 : decode cX5_contains 3 = .ok (.iconst 1, 1) := by decide +kernel
theorem dX5_contains_4 : decode cX5_contains 4 = .ok (.iand, 1) := by decide +kernel
theorem dX5_contains_5 : decode cX5_contains 5 = .ok (.ifCond .eq 7, 3) := by decide +kernel
theorem dX5_contains_8 : decode cX5_contains 8 = .ok (.iconst 1, 1) := by decide +kernel
theorem dX5_contains_9 : decode cX5_contains 9 = .ok (.goto 4, 3) := by decide +kernel
theorem dX5_contains_12 : decode cX5_contains 12 = .ok (.iconst 0, 1) := by decide +kernel
theorem dX5_contains_13 : decode cX5_contains 13 = .ok (.ireturn, 1) := by decide +kernel
theorem dX5_isSetAllowed_0 : decode cX5_isSetAllowed 0 = .ok (.iconst 0, 1) := by decide +kernel
theorem dX5_isSetAllowed_1 : decode cX5_isSetAllowed 1 = .ok (.istore_n 2, 1) := by decide +kernel
theorem dX5_isSetAllowed_2 : decode cX5_isSetAllowed 2 = .ok (.iload_n 2, 1) := by decide +kernel
theorem dX5_isSetAllowed_3 : decode cX5_isSetAllowed 3 = .ok (.aload_n 0, 1) := by decide +kernel
theorem dX5_isSetAllowed_4 : decode cX5_isSetAllowed 4 = .ok (.getfield 46, 3) := by decide +kernel
theorem dX5_isSetAllowed_7 : decode cX5_isSetAllowed 7 = .ok (.if_icmp .ge 52, 3) := by decide +kernel
theorem dX5_isSetAllowed_10 : decode cX5_isSetAllowed 10 = .ok (.iload_n 1, 1) := by decide +kernel
theorem dX5_isSetAllowed_11 : decode cX5_isSetAllowed 11 = .ok (.iload_n 2, 1) := by decide +kernel
theorem dX5_isSetAllowed_12 : decode cX5_isSetAllowed 12 = .ok (.invokestatic 249, 3) := by decide +kernel
theorem dX5_isSetAllowed_15 : decode cX5_isSetAllowed 15 = .ok (.ifCond .eq 38, 3) := by decide +kernel
theorem dX5_isSetAllowed_18 : decode cX5_isSetAllowed 18 = .ok (.iload_n 1, 1) := by decide +kernel
theorem dX5_isSetAllowed_19 : decode cX5_isSetAllowed 19 = .ok (.iconst 1, 1) := by decide +kernel
theorem dX5_isSetAllowed_20 : decode cX5_isSetAllowed 20 = .ok (.iload_n 2, 1) := by decide +kernel
theorem dX5_isSetAllowed_21 : decode cX5_isSetAllowed 21 = .ok (.ishl, 1) := by decide +kernel
theorem dX5_isSetAllowed_22 : decode cX5_isSetAllowed 22 = .ok (.iconst 1, 1) := by decide +kernel
theorem dX5_isSetAllowed_23 : decode cX5_isSetAllowed 23 = .ok (.isub, 1) := by decide +kernel
theorem dX5_isSetAllowed_24 : decode cX5_isSetAllowed 24 = .ok (.iand, 1) := by decide +kernel
theorem dX5_isSetAllowed_25 : decode cX5_isSetAllowed 25 = .ok (.istore_n 3, 1) := by decide +kernel
theorem dX5_isSetAllowed_26 : decode cX5_isSetAllowed 26 = .ok (.aload_n 0, 1) := by decide +kernel
theorem dX5_isSetAllowed_27 : decode cX5_isSetAllowed 27 = .ok (.getfield 18, 3) := by decide +kernel
theorem dX5_isSetAllowed_30 : decode cX5_isSetAllowed 30 = .ok (.iload_n 2, 1) := by decide +kernel
theorem dX5_isSetAllowed_31 : decode cX5_isSetAllowed 31 = .ok (.aaload, 1) := by decide +kernel
theorem dX5_isSetAllowed_32 : decode cX5_isSetAllowed 32 = .ok (.aload_n 0, 1) := by decide +kernel
theorem dX5_isSetAllowed_33 : decode cX5_isSetAllowed 33 = .ok (.getfield 12, 3) := by decide +kernel
theorem dX5_isSetAllowed_36 : decode cX5_isSetAllowed 36 = .ok (.invokevirtual 128, 3) := by decide +kernel
theorem dX5_isSetAllowed_39 : decode cX5_isSetAllowed 39 = .ok (.ifCond .eq 12, 3) := by decide +kernel
theorem dX5_isSetAllowed_42 : decode cX5_isSetAllowed 42 = .ok (.aload_n 0, 1) := by decide +kernel
theorem dX5_isSetAllowed_43 : decode cX5_isSetAllowed 43 = .ok (.iload_n 2, 1) := by decide +kernel
theorem dX5_isSetAllowed_44 : decode cX5_isSetAllowed 44 = .ok (.iload_n 3, 1) := by decide +kernel
theorem dX5_isSetAllowed_45 : decode cX5_isSetAllowed 45 = .ok (.invokevirtual 252, 3) := by decide +kernel
theorem dX5_isSetAllowed_48 : decode cX5_isSetAllowed 48 = .ok (.ifCond .ne 5, 3) := by decide +kernel
theorem dX5_isSetAllowed_51 : decode cX5_isSetAllowed 51 = .ok (.iconst 0, 1) := by decide +kernel
theorem dX5_isSetAllowed_52 : decode cX5_isSetAllowed 52 = .ok (.ireturn, 1) := by decide +kernel
theorem dX5_isSetAllowed_53 : decode cX5_isSetAllowed 53 = .ok (.iinc 2 1, 3) := by decide +kernel
theorem dX5_isSetAllowed_56 : decode cX5_isSetAllowed 56 = .ok (.goto (-54), 3) := by decide +kernel
theorem dX5_isSetAllowed_59 : decode cX5_isSetAllowed 59 = .ok (.iconst 1, 1) := by decide +kernel
theorem dX5_isSetAllowed_60 : decode cX5_isSetAllowed 60 = .ok (.ireturn, 1) := by decide +kernel
theorem dX5_isGroupFree_0 : decode cX5_isGroupFree 0 = .ok (.aload_n 0, 1) := by decide +kernel
theorem dX5_isGroupFree_1 : decode cX5_isGroupFree 1 = .ok (.getfield 18, 3) := by decide +kernel
theorem dX5_isGroupFree_4 : decode cX5_isGroupFree 4 = .ok (.iload_n 1, 1) := by decide +kernel
theorem dX5_isGroupFree_5 : decode cX5_isGroupFree 5 = .ok (.aaload, 1) := by decide +kernel
theorem dX5_isGroupFree_6 : decode cX5_isGroupFree 6 = .ok (.getfield 255, 3) := by decide +kernel
theorem dX5_isGroupFree_9 : decode cX5_isGroupFree 9 = .ok (.istore_n 3, 1) := by decide +kernel
theorem dX5_isGroupFree_10 : decode cX5_isGroupFree 10 = .ok (.iload_n 3, 1) := by decide +kernel
theorem dX5_isGroupFree_11 : decode cX5_isGroupFree 11 = .ok (.ifCond .ne 5, 3) := by decide +kernel
theorem dX5_isGroupFree_14 : decode cX5_isGroupFree 14 = .ok (.iconst 1, 1) := by decide +kernel
theorem dX5_isGroupFree_15 : decode cX5_isGroupFree 15 = .ok (.ireturn, 1) := by decide +kernel
theorem dX5_isGroupFree_16 : decode cX5_isGroupFree 16 = .ok (.iconst 0, 1) := by decide +kernel
theorem dX5_isGroupFree_17 : decode cX5_isGroupFree 17 = .ok (.istore 4, 2) := by decide +kernel
theorem dX5_isGroupFree_19 : decode cX5_isGroupFree 19 = .ok (.iload 4, 2) := by decide +kernel
theorem dX5_isGroupFree_21 : decode cX5_isGroupFree 21 = .ok (.aload_n 0, 1) := by decide +kernel
theorem dX5_isGroupFree_22 : decode cX5_isGroupFree 22 = .ok (.getfield 46, 3) := by decide +kernel
theorem dX5_isGroupFree_25 : decode cX5_isGroupFree 25 = .ok (.if_icmp .ge 34, 3) := by decide +kernel
theorem dX5_isGroupFree_28 : decode cX5_isGroupFree 28 = .ok (.iload_n 2, 1) := by decide +kernel
theorem dX5_isGroupFree_29 : decode cX5_isGroupFree 29 = .ok (.iload 4, 2) := by decide +kernel
theorem dX5_isGroupFree_31 : decode cX5_isGroupFree 31 = .ok (.invokestatic 249, 3) := by decide +kernel
theorem dX5_isGroupFree_34 : decode cX5_isGroupFree 34 = .ok (.ifCond .eq 19, 3) := by decide +kernel
theorem dX5_isGroupFree_37 : decode cX5_isGroupFree 37 = .ok (.aload_n 0, 1) := by decide +kernel
theorem dX5_isGroupFree_38 : decode cX5_isGroupFree 38 = .ok (.getfield 18, 3) := by decide +kernel
theorem dX5_isGroupFree_41 : decode cX5_isGroupFree 41 = .ok (.iload 4, 2) := by decide +kernel
theorem dX5_isGroupFree_43 : decode cX5_isGroupFree 43 = .ok (.aaload, 1) := by decide +kernel
theorem dX5_isGroupFree_44 : decode cX5_isGroupFree 44 = .ok (.getfield 255, 3) := by decide +kernel
theorem dX5_isGroupFree_47 : decode cX5_isGroupFree 47 = .ok (.iload_n 3, 1) := by decide +kernel
theorem dX5_isGroupFree_48 : decode cX5_isGroupFree 48 = .ok (.if_icmp .ne 5, 3) := by decide +kernel
theorem dX5_isGroupFree_51 : decode cX5_isGroupFree 51 = .ok (.iconst 0, 1) := by decide +kernel
theorem dX5_isGroupFree_52 : decode cX5_isGroupFree 52 = .ok (.ireturn, 1) := by decide +kernel
theorem dX5_isGroupFree_53 : decode cX5_isGroupFree 53 = .ok (.iinc 4 1, 3) := by decide +kernel
theorem dX5_isGroupFree_56 : decode cX5_isGroupFree 56 = .ok (.goto (-37), 3) := by decide +kernel
theorem dX5_isGroupFree_59 : decode cX5_isGroupFree 59 = .ok (.iconst 1, 1) := by decide +kernel
theorem dX5_isGroupFree_60 : decode cX5_isGroupFree 60 = .ok (.ireturn, 1) := by decide +kernel
theorem dX5_usableForBasket_0 : decode cX5_usableForBasket 0 = .ok (.iconst 0, 1) := by decide +kernel
theorem dX5_usableForBasket_1 : decode cX5_usableForBasket 1 = .ok (.istore_n 1, 1) := by decide +kernel
theorem dX5_usableForBasket_2 : decode cX5_usableForBasket 2 = .ok (.iconst 0, 1) := by decide +kernel
theorem dX5_usableForBasket_3 : decode cX5_usableForBasket 3 = .ok (.istore_n 2, 1) := by decide +kernel
theorem dX5_usableForBasket_4 : decode cX5_usableForBasket 4 = .ok (.iload_n 2, 1) := by decide +kernel
theorem dX5_usableForBasket_5 : decode cX5_usableForBasket 5 = .ok (.aload_n 0, 1) := by decide +kernel
theorem dX5_usableForBasket_6 : decode cX5_usableForBasket 6 = .ok (.getfield 46, 3) := by decide +kernel
theorem dX5_usableForBasket_9 : decode cX5_usableForBasket 9 = .ok (.if_icmp .ge 31, 3) := by decide +kernel
theorem dX5_usableForBasket_12 : decode cX5_usableForBasket 12 = .ok (.aload_n 0, 1) := by decide +kernel
theorem dX5_usableForBasket_13 : decode cX5_usableForBasket 13 = .ok (.getfield 18, 3) := by decide +kernel
theorem dX5_usableForBasket_16 : decode cX5_usableForBasket 16 = .ok (.iload_n 2, 1) := by decide +kernel
theorem dX5_usableForBasket_17 : decode cX5_usableForBasket 17 = .ok (.aaload, 1) := by decide +kernel
theorem dX5_usableForBasket_18 : decode cX5_usableForBasket 18 = .ok (.aload_n 0, 1) := by decide +kernel
theorem dX5_usableForBasket_19 : decode cX5_usableForBasket 19 = .ok (.getfield 12, 3) := by decide +kernel
theorem dX5_usableForBasket_22 : decode cX5_usableForBasket 22 = .ok (.invokevirtual 128, 3) := by decide +kernel
theorem dX5_usableForBasket_25 : decode cX5_usableForBasket 25 = .ok (.ifCond .eq 9, 3) := by decide +kernel
theorem dX5_usableForBasket_28 : decode cX5_usableForBasket 28 = .ok (.iload_n 1, 1) := by decide +kernel
theorem dX5_usableForBasket_29 : decode cX5_usableForBasket 29 = .ok (.iconst 1, 1) := by decide +kernel
theorem dX5_usableForBasket_30 : decode cX5_usableForBasket 30 = .ok (.iload_n 2, 1) := by decide +kernel
theorem dX5_usableForBasket_31 : decode cX5_usableForBasket 31 = .ok (.ishl, 1) := by decide +kernel
theorem dX5_usableForBasket_32 : decode cX5_usableForBasket 32 = .ok (.ior, 1) := by decide +kernel
theorem dX5_usableForBasket_33 : decode cX5_usableForBasket 33 = .ok (.istore_n 1, 1) := by decide +kernel
theorem dX5_usableForBasket_34 : decode cX5_usableForBasket 34 = .ok (.iinc 2 1, 3) := by decide +kernel
theorem dX5_usableForBasket_37 : decode cX5_usableForBasket 37 = .ok (.goto (-33), 3) := by decide +kernel
theorem dX5_usableForBasket_40 : decode cX5_usableForBasket 40 = .ok (.iload_n 1, 1) := by decide +kernel
theorem dX5_usableForBasket_41 : decode cX5_usableForBasket 41 = .ok (.ireturn, 1) := by decide +kernel
theorem dX5_stillReached_0 : decode cX5_stillReached 0 = .ok (.iconst 0, 1) := by decide +kernel
theorem dX5_stillReached_1 : decode cX5_stillReached 1 = .ok (.istore_n 2, 1) := by decide +kernel
theorem dX5_stillReached_2 : decode cX5_stillReached 2 = .ok (.iconst 0, 1) := by decide +kernel
theorem dX5_stillReached_3 : decode cX5_stillReached 3 = .ok (.istore_n 3, 1) := by decide +kernel
theorem dX5_stillReached_4 : decode cX5_stillReached 4 = .ok (.iload_n 3, 1) := by decide +kernel
theorem dX5_stillReached_5 : decode cX5_stillReached 5 = .ok (.aload_n 0, 1) := by decide +kernel
theorem dX5_stillReached_6 : decode cX5_stillReached 6 = .ok (.getfield 46, 3) := by decide +kernel
theorem dX5_stillReached_9 : decode cX5_stillReached 9 = .ok (.if_icmp .ge 42, 3) := by decide +kernel
theorem dX5_stillReached_12 : decode cX5_stillReached 12 = .ok (.aload_n 1, 1) := by decide +kernel
theorem dX5_stillReached_13 : decode cX5_stillReached 13 = .ok (.getfield 206, 3) := by decide +kernel
theorem dX5_stillReached_16 : decode cX5_stillReached 16 = .ok (.iload_n 3, 1) := by decide +kernel
theorem dX5_stillReached_17 : decode cX5_stillReached 17 = .ok (.invokestatic 249, 3) := by decide +kernel
theorem dX5_stillReached_20 : decode cX5_stillReached 20 = .ok (.ifCond .eq 25, 3) := by decide +kernel
theorem dX5_stillReached_23 : decode cX5_stillReached 23 = .ok (.aload_n 0, 1) := by decide +kernel
theorem dX5_stillReached_24 : decode cX5_stillReached 24 = .ok (.getfield 18, 3) := by decide +kernel
theorem dX5_stillReached_27 : decode cX5_stillReached 27 = .ok (.iload_n 3, 1) := by decide +kernel
theorem dX5_stillReached_28 : decode cX5_stillReached 28 = .ok (.aaload, 1) := by decide +kernel
theorem dX5_stillReached_29 : decode cX5_stillReached 29 = .ok (.aload_n 1, 1) := by decide +kernel
theorem dX5_stillReached_30 : decode cX5_stillReached 30 = .ok (.getfield 197, 3) := by decide +kernel
theorem dX5_stillReached_33 : decode cX5_stillReached 33 = .ok (.invokevirtual 258, 3) := by decide +kernel
theorem dX5_stillReached_36 : decode cX5_stillReached 36 = .ok (.ifCond .eq 9, 3) := by decide +kernel
theorem dX5_stillReached_39 : decode cX5_stillReached 39 = .ok (.iload_n 2, 1) := by decide +kernel
theorem dX5_stillReached_40 : decode cX5_stillReached 40 = .ok (.iconst 1, 1) := by decide +kernel
theorem dX5_stillReached_41 : decode cX5_stillReached 41 = .ok (.iload_n 3, 1) := by decide +kernel
theorem dX5_stillReached_42 : decode cX5_stillReached 42 = .ok (.ishl, 1) := by decide +kernel
theorem dX5_stillReached_43 : decode cX5_stillReached 43 = .ok (.ior, 1) := by decide +kernel
theorem dX5_stillReached_44 : decode cX5_stillReached 44 = .ok (.istore_n 2, 1) := by decide +kernel
theorem dX5_stillReached_45 : decode cX5_stillReached 45 = .ok (.iinc 3 1, 3) := by decide +kernel
theorem dX5_stillReached_48 : decode cX5_stillReached 48 = .ok (.goto (-44), 3) := by decide +kernel
theorem dX5_stillReached_51 : decode cX5_stillReached 51 = .ok (.iload_n 2, 1) := by decide +kernel
theorem dX5_stillReached_52 : decode cX5_stillReached 52 = .ok (.ireturn, 1) := by decide +kernel
theorem dX5_useUp_0 : decode cX5_useUp 0 = .ok (.iconst 0, 1) := by decide +kernel
theorem dX5_useUp_1 : decode cX5_useUp 1 = .ok (.istore_n 2, 1) := by decide +kernel
theorem dX5_useUp_2 : decode cX5_useUp 2 = .ok (.iload_n 2, 1) := by decide +kernel
theorem dX5_useUp_3 : decode cX5_useUp 3 = .ok (.aload_n 0, 1) := by decide +kernel
theorem dX5_useUp_4 : decode cX5_useUp 4 = .ok (.getfield 46, 3) := by decide +kernel
theorem dX5_useUp_7 : decode cX5_useUp 7 = .ok (.if_icmp .ge 32, 3) := by decide +kernel
theorem dX5_useUp_10 : decode cX5_useUp 10 = .ok (.iload_n 1, 1) := by decide +kernel
theorem dX5_useUp_11 : decode cX5_useUp 11 = .ok (.iload_n 2, 1) := by decide +kernel
theorem dX5_useUp_12 : decode cX5_useUp 12 = .ok (.invokestatic 249, 3) := by decide +kernel
theorem dX5_useUp_15 : decode cX5_useUp 15 = .ok (.ifCond .eq 18, 3) := by decide +kernel
theorem dX5_useUp_18 : decode cX5_useUp 18 = .ok (.aload_n 0, 1) := by decide +kernel
theorem dX5_useUp_19 : decode cX5_useUp 19 = .ok (.getfield 18, 3) := by decide +kernel
theorem dX5_useUp_22 : decode cX5_useUp 22 = .ok (.iload_n 2, 1) := by decide +kernel
theorem dX5_useUp_23 : decode cX5_useUp 23 = .ok (.aaload, 1) := by decide +kernel
theorem dX5_useUp_24 : decode cX5_useUp 24 = .ok (.dup, 1) := by decide +kernel
theorem dX5_useUp_25 : decode cX5_useUp 25 = .ok (.getfield 123, 3) := by decide +kernel
theorem dX5_useUp_28 : decode cX5_useUp 28 = .ok (.iconst 1, 1) := by decide +kernel
theorem dX5_useUp_29 : decode cX5_useUp 29 = .ok (.isub, 1) := by decide +kernel
theorem dX5_useUp_30 : decode cX5_useUp 30 = .ok (.putfield 123, 3) := by decide +kernel
theorem dX5_useUp_33 : decode cX5_useUp 33 = .ok (.iinc 2 1, 3) := by decide +kernel
theorem dX5_useUp_36 : decode cX5_useUp 36 = .ok (.goto (-34), 3) := by decide +kernel
theorem dX5_useUp_39 : decode cX5_useUp 39 = .ok (.return_, 1) := by decide +kernel
theorem dX5_layAndApply_0 : decode cX5_layAndApply 0 = .ok (.aload_n 0, 1) := by decide +kernel
theorem dX5_layAndApply_1 : decode cX5_layAndApply 1 = .ok (.getfield 31, 3) := by decide +kernel
theorem dX5_layAndApply_4 : decode cX5_layAndApply 4 = .ok (.aload_n 1, 1) := by decide +kernel
theorem dX5_layAndApply_5 : decode cX5_layAndApply 5 = .ok (.invokevirtual 261, 3) := by decide +kernel
theorem dX5_layAndApply_8 : decode cX5_layAndApply 8 = .ok (.iconst 0, 1) := by decide +kernel
theorem dX5_layAndApply_9 : decode cX5_layAndApply 9 = .ok (.istore_n 3, 1) := by decide +kernel
theorem dX5_layAndApply_10 : decode cX5_layAndApply 10 = .ok (.iload_n 3, 1) := by decide +kernel
theorem dX5_layAndApply_11 : decode cX5_layAndApply 11 = .ok (.aload_n 0, 1) := by decide +kernel
theorem dX5_layAndApply_12 : decode cX5_layAndApply 12 = .ok (.getfield 46, 3) := by decide +kernel
theorem dX5_layAndApply_15 : decode cX5_layAndApply 15 = .ok (.if_icmp .ge 31, 3) := by decide +kernel
theorem dX5_layAndApply_18 : decode cX5_layAndApply 18 = .ok (.iload_n 2, 1) := by decide +kernel
theorem dX5_layAndApply_19 : decode cX5_layAndApply 19 = .ok (.iload_n 3, 1) := by decide +kernel
theorem dX5_layAndApply_20 : decode cX5_layAndApply 20 = .ok (.invokestatic 249, 3) := by decide +kernel
theorem dX5_layAndApply_23 : decode cX5_layAndApply 23 = .ok (.ifCond .eq 17, 3) := by decide +kernel
theorem dX5_layAndApply_26 : decode cX5_layAndApply 26 = .ok (.aload_n 0, 1) := by decide +kernel
theorem dX5_layAndApply_27 : decode cX5_layAndApply 27 = .ok (.getfield 31, 3) := by decide +kernel
theorem dX5_layAndApply_30 : decode cX5_layAndApply 30 = .ok (.aload_n 0, 1) := by decide +kernel
theorem dX5_layAndApply_31 : decode cX5_layAndApply 31 = .ok (.getfield 18, 3) := by decide +kernel
theorem dX5_layAndApply_34 : decode cX5_layAndApply 34 = .ok (.iload_n 3, 1) := by decide +kernel
theorem dX5_layAndApply_35 : decode cX5_layAndApply 35 = .ok (.aaload, 1) := by decide +kernel
theorem dX5_layAndApply_36 : decode cX5_layAndApply 36 = .ok (.iconst 0, 1) := by decide +kernel
theorem dX5_layAndApply_37 : decode cX5_layAndApply 37 = .ok (.invokevirtual 265, 3) := by decide +kernel
theorem dX5_layAndApply_40 : decode cX5_layAndApply 40 = .ok (.iinc 3 1, 3) := by decide +kernel
theorem dX5_layAndApply_43 : decode cX5_layAndApply 43 = .ok (.goto (-33), 3) := by decide +kernel
theorem dX5_layAndApply_46 : decode cX5_layAndApply 46 = .ok (.return_, 1) := by decide +kernel
theorem dX5_goodsOf_0 : decode cX5_goodsOf 0 = .ok (.aload_n 0, 1) := by decide +kernel
theorem dX5_goodsOf_1 : decode cX5_goodsOf 1 = .ok (.aload_n 1, 1) := by decide +kernel
theorem dX5_goodsOf_2 : decode cX5_goodsOf 2 = .ok (.iload_n 2, 1) := by decide +kernel
theorem dX5_goodsOf_3 : decode cX5_goodsOf 3 = .ok (.invokevirtual 158, 3) := by decide +kernel
theorem dX5_goodsOf_6 : decode cX5_goodsOf 6 = .ok (.aload_n 0, 1) := by decide +kernel
theorem dX5_goodsOf_7 : decode cX5_goodsOf 7 = .ok (.getfield 31, 3) := by decide +kernel
theorem dX5_goodsOf_10 : decode cX5_goodsOf 10 = .ok (.iconst 0, 1) := by decide +kernel
theorem dX5_goodsOf_11 : decode cX5_goodsOf 11 = .ok (.invokevirtual 269, 3) := by decide +kernel
theorem dX5_goodsOf_14 : decode cX5_goodsOf 14 = .ok (.ireturn, 1) := by decide +kernel
theorem dX5_feeFor_0 : decode cX5_feeFor 0 = .ok (.iload_n 2, 1) := by decide +kernel
theorem dX5_feeFor_1 : decode cX5_feeFor 1 = .ok (.aload_n 0, 1) := by decide +kernel
theorem dX5_feeFor_2 : decode cX5_feeFor 2 = .ok (.getfield 56, 3) := by decide +kernel
theorem dX5_feeFor_5 : decode cX5_feeFor 5 = .ok (.if_icmp .ge 21, 3) := by decide +kernel
theorem dX5_feeFor_8 : decode cX5_feeFor 8 = .ok (.aload_n 0, 1) := by decide +kernel
theorem dX5_feeFor_9 : decode cX5_feeFor 9 = .ok (.getfield 12, 3) := by decide +kernel
theorem dX5_feeFor_12 : decode cX5_feeFor 12 = .ok (.invokevirtual 177, 3) := by decide +kernel
theorem dX5_feeFor_15 : decode cX5_feeFor 15 = .ok (.ifCond .eq 11, 3) := by decide +kernel
theorem dX5_feeFor_18 : decode cX5_feeFor 18 = .ok (.aload_n 0, 1) := by decide +kernel
theorem dX5_feeFor_19 : decode cX5_feeFor 19 = .ok (.iload_n 1, 1) := by decide +kernel
theorem dX5_feeFor_20 : decode cX5_feeFor 20 = .ok (.invokevirtual 272, 3) := by decide +kernel
theorem dX5_feeFor_23 : decode cX5_feeFor 23 = .ok (.ifCond .eq 5, 3) := by decide +kernel
theorem dX5_feeFor_26 : decode cX5_feeFor 26 = .ok (.iconst 0, 1) := by decide +kernel
theorem dX5_feeFor_27 : decode cX5_feeFor 27 = .ok (.ireturn, 1) := by decide +kernel
theorem dX5_feeFor_28 : decode cX5_feeFor 28 = .ok (.aload_n 0, 1) := by decide +kernel
theorem dX5_feeFor_29 : decode cX5_feeFor 29 = .ok (.getfield 52, 3) := by decide +kernel
theorem dX5_feeFor_32 : decode cX5_feeFor 32 = .ok (.ireturn, 1) := by decide +kernel
theorem dX5_hasFreight_0 : decode cX5_hasFreight 0 = .ok (.iconst 0, 1) := by decide +kernel
theorem dX5_hasFreight_1 : decode cX5_hasFreight 1 = .ok (.istore_n 2, 1) := by decide +kernel
theorem dX5_hasFreight_2 : decode cX5_hasFreight 2 = .ok (.iload_n 2, 1) := by decide +kernel
theorem dX5_hasFreight_3 : decode cX5_hasFreight 3 = .ok (.aload_n 0, 1) := by decide +kernel
theorem dX5_hasFreight_4 : decode cX5_hasFreight 4 = .ok (.getfield 46, 3) := by decide +kernel
theorem dX5_hasFreight_7 : decode cX5_hasFreight 7 = .ok (.if_icmp .ge 32, 3) := by decide +kernel
theorem dX5_hasFreight_10 : decode cX5_hasFreight 10 = .ok (.iload_n 1, 1) := by decide +kernel
theorem dX5_hasFreight_11 : decode cX5_hasFreight 11 = .ok (.iload_n 2, 1) := by decide +kernel
theorem dX5_hasFreight_12 : decode cX5_hasFreight 12 = .ok (.invokestatic 249, 3) := by decide +kernel
theorem dX5_hasFreight_15 : decode cX5_hasFreight 15 = .ok (.ifCond .eq 18, 3) := by decide +kernel
theorem dX5_hasFreight_18 : decode cX5_hasFreight 18 = .ok (.aload_n 0, 1) := by decide +kernel
theorem dX5_hasFreight_19 : decode cX5_hasFreight 19 = .ok (.getfield 18, 3) := by decide +kernel
theorem dX5_hasFreight_22 : decode cX5_hasFreight 22 = .ok (.iload_n 2, 1) := by decide +kernel
theorem dX5_hasFreight_23 : decode cX5_hasFreight 23 = .ok (.aaload, 1) := by decide +kernel
theorem dX5_hasFreight_24 : decode cX5_hasFreight 24 = .ok (.getfield 275, 3) := by decide +kernel
theorem dX5_hasFreight_27 : decode cX5_hasFreight 27 = .ok (.iconst 3, 1) := by decide +kernel
theorem dX5_hasFreight_28 : decode cX5_hasFreight 28 = .ok (.if_icmp .ne 5, 3) := by decide +kernel
theorem dX5_hasFreight_31 : decode cX5_hasFreight 31 = .ok (.iconst 1, 1) := by decide +kernel
theorem dX5_hasFreight_32 : decode cX5_hasFreight 32 = .ok (.ireturn, 1) := by decide +kernel
theorem dX5_hasFreight_33 : decode cX5_hasFreight 33 = .ok (.iinc 2 1, 3) := by decide +kernel
theorem dX5_hasFreight_36 : decode cX5_hasFreight 36 = .ok (.goto (-34), 3) := by decide +kernel
theorem dX5_hasFreight_39 : decode cX5_hasFreight 39 = .ok (.iconst 0, 1) := by decide +kernel
theorem dX5_hasFreight_40 : decode cX5_hasFreight 40 = .ok (.ireturn, 1) := by decide +kernel
theorem dX5_searchSets_0 : decode cX5_searchSets 0 = .ok (.aload_n 0, 1) := by decide +kernel
theorem dX5_searchSets_1 : decode cX5_searchSets 1 = .ok (.getfield 38, 3) := by decide +kernel
theorem dX5_searchSets_4 : decode cX5_searchSets 4 = .ok (.iload_n 1, 1) := by decide +kernel
theorem dX5_searchSets_5 : decode cX5_searchSets 5 = .ok (.aload_n 0, 1) := by decide +kernel
theorem dX5_searchSets_6 : decode cX5_searchSets 6 = .ok (.invokevirtual 278, 3) := by decide +kernel
theorem dX5_searchSets_9 : decode cX5_searchSets 9 = .ok (.invokevirtual 281, 3) := by decide +kernel
theorem dX5_searchSets_12 : decode cX5_searchSets 12 = .ok (.aload_n 0, 1) := by decide +kernel
theorem dX5_searchSets_13 : decode cX5_searchSets 13 = .ok (.getfield 31, 3) := by decide +kernel
theorem dX5_searchSets_16 : decode cX5_searchSets 16 = .ok (.aload_n 0, 1) := by decide +kernel
theorem dX5_searchSets_17 : decode cX5_searchSets 17 = .ok (.getfield 12, 3) := by decide +kernel
theorem dX5_searchSets_20 : decode cX5_searchSets 20 = .ok (.invokevirtual 261, 3) := by decide +kernel
theorem dX5_searchSets_23 : decode cX5_searchSets 23 = .ok (.aload_n 0, 1) := by decide +kernel
theorem dX5_searchSets_24 : decode cX5_searchSets 24 = .ok (.iconst 0, 1) := by decide +kernel
theorem dX5_searchSets_25 : decode cX5_searchSets 25 = .ok (.iconst 0, 1) := by decide +kernel
theorem dX5_searchSets_26 : decode cX5_searchSets 26 = .ok (.iconst 0, 1) := by decide +kernel
theorem dX5_searchSets_27 : decode cX5_searchSets 27 = .ok (.invokestatic 285, 3) := by decide +kernel
theorem dX5_searchSets_30 : decode cX5_searchSets 30 = .ok (.return_, 1) := by decide +kernel
theorem dX5_extend_0 : decode cX5_extend 0 = .ok (.aload_n 0, 1) := by decide +kernel
theorem dX5_extend_1 : decode cX5_extend 1 = .ok (.getfield 31, 3) := by decide +kernel
theorem dX5_extend_4 : decode cX5_extend 4 = .ok (.iload_n 3, 1) := by decide +kernel
theorem dX5_extend_5 : decode cX5_extend 5 = .ok (.invokevirtual 269, 3) := by decide +kernel
theorem dX5_extend_8 : decode cX5_extend 8 = .ok (.istore 4, 2) := by decide +kernel
theorem dX5_extend_10 : decode cX5_extend 10 = .ok (.aload_n 0, 1) := by decide +kernel
theorem dX5_extend_11 : decode cX5_extend 11 = .ok (.getfield 38, 3) := by decide +kernel
theorem dX5_extend_14 : decode cX5_extend 14 = .ok (.iload_n 1, 1) := by decide +kernel
theorem dX5_extend_15 : decode cX5_extend 15 = .ok (.iload 4, 2) := by decide +kernel
theorem dX5_extend_17 : decode cX5_extend 17 = .ok (.aload_n 0, 1) := by decide +kernel
theorem dX5_extend_18 : decode cX5_extend 18 = .ok (.iload_n 1, 1) := by decide +kernel
theorem dX5_extend_19 : decode cX5_extend 19 = .ok (.iload 4, 2) := by decide +kernel
theorem dX5_extend_21 : decode cX5_extend 21 = .ok (.invokevirtual 155, 3) := by decide +kernel
theorem dX5_extend_24 : decode cX5_extend 24 = .ok (.iadd, 1) := by decide +kernel
theorem dX5_extend_25 : decode cX5_extend 25 = .ok (.invokevirtual 289, 3) := by decide +kernel
theorem dX5_extend_28 : decode cX5_extend 28 = .ok (.iload_n 3, 1) := by decide +kernel
theorem dX5_extend_29 : decode cX5_extend 29 = .ok (.bipush 8, 2) := by decide +kernel
theorem dX5_extend_31 : decode cX5_extend 31 = .ok (.if_icmp .lt 4, 3) := by decide +kernel
theorem dX5_extend_34 : decode cX5_extend 34 = .ok (.return_, 1) := by decide +kernel
theorem dX5_extend_35 : decode cX5_extend 35 = .ok (.iload_n 2, 1) := by decide +kernel
theorem dX5_extend_36 : decode cX5_extend 36 = .ok (.istore 5, 2) := by decide +kernel
theorem dX5_extend_38 : decode cX5_extend 38 = .ok (.iload 5, 2) := by decide +kernel
theorem dX5_extend_40 : decode cX5_extend 40 = .ok (.aload_n 0, 1) := by decide +kernel
theorem dX5_extend_41 : decode cX5_extend 41 = .ok (.getfield 46, 3) := by decide +kernel
theorem dX5_extend_44 : decode cX5_extend 44 = .ok (.if_icmp .ge 79, 3) := by decide +kernel
theorem dX5_extend_47 : decode cX5_extend 47 = .ok (.aload_n 0, 1) := by decide +kernel
theorem dX5_extend_48 : decode cX5_extend 48 = .ok (.getfield 38, 3) := by decide +kernel
theorem dX5_extend_51 : decode cX5_extend 51 = .ok (.getfield 292, 3) := by decide +kernel
theorem dX5_extend_54 : decode cX5_extend 54 = .ok (.iload 5, 2) := by decide +kernel
theorem dX5_extend_56 : decode cX5_extend 56 = .ok (.invokestatic 249, 3) := by decide +kernel
theorem dX5_extend_59 : decode cX5_extend 59 = .ok (.ifCond .eq 58, 3) := by decide +kernel
theorem dX5_extend_62 : decode cX5_extend 62 = .ok (.aload_n 0, 1) := by decide +kernel
theorem dX5_extend_63 : decode cX5_extend 63 = .ok (.iload 5, 2) := by decide +kernel
theorem dX5_extend_65 : decode cX5_extend 65 = .ok (.iload_n 1, 1) := by decide +kernel
theorem dX5_extend_66 : decode cX5_extend 66 = .ok (.invokevirtual 252, 3) := by decide +kernel
theorem dX5_extend_69 : decode cX5_extend 69 = .ok (.ifCond .eq 48, 3) := by decide +kernel
theorem dX5_extend_72 : decode cX5_extend 72 = .ok (.aload_n 0, 1) := by decide +kernel
theorem dX5_extend_73 : decode cX5_extend 73 = .ok (.getfield 31, 3) := by decide +kernel
theorem dX5_extend_76 : decode cX5_extend 76 = .ok (.iload_n 3, 1) := by decide +kernel
theorem dX5_extend_77 : decode cX5_extend 77 = .ok (.iload_n 3, 1) := by decide +kernel
theorem dX5_extend_78 : decode cX5_extend 78 = .ok (.iconst 1, 1) := by decide +kernel
theorem dX5_extend_79 : decode cX5_extend 79 = .ok (.iadd, 1) := by decide +kernel
theorem dX5_extend_80 : decode cX5_extend 80 = .ok (.invokevirtual 295, 3) := by decide +kernel
theorem dX5_extend_83 : decode cX5_extend 83 = .ok (.aload_n 0, 1) := by decide +kernel
theorem dX5_extend_84 : decode cX5_extend 84 = .ok (.getfield 31, 3) := by decide +kernel
theorem dX5_extend_87 : decode cX5_extend 87 = .ok (.aload_n 0, 1) := by decide +kernel
theorem dX5_extend_88 : decode cX5_extend 88 = .ok (.getfield 18, 3) := by decide +kernel
theorem dX5_extend_91 : decode cX5_extend 91 = .ok (.iload 5, 2) := by decide +kernel
theorem dX5_extend_93 : decode cX5_extend 93 = .ok (.aaload, 1) := by decide +kernel
theorem dX5_extend_94 : decode cX5_extend 94 = .ok (.iload_n 3, 1) := by decide +kernel
theorem dX5_extend_95 : decode cX5_extend 95 = .ok (.iconst 1, 1) := by decide +kernel
theorem dX5_extend_96 : decode cX5_extend 96 = .ok (.iadd, 1) := by decide +kernel
theorem dX5_extend_97 : decode cX5_extend 97 = .ok (.invokevirtual 265, 3) := by decide +kernel
theorem dX5_extend_100 : decode cX5_extend 100 = .ok (.aload_n 0, 1) := by decide +kernel
theorem dX5_extend_101 : decode cX5_extend 101 = .ok (.iload_n 1, 1) := by decide +kernel
theorem dX5_extend_102 : decode cX5_extend 102 = .ok (.iconst 1, 1) := by decide +kernel
theorem dX5_extend_103 : decode cX5_extend 103 = .ok (.iload 5, 2) := by decide +kernel
theorem dX5_extend_105 : decode cX5_extend 105 = .ok (.ishl, 1) := by decide +kernel
theorem dX5_extend_106 : decode cX5_extend 106 = .ok (.ior, 1) := by decide +kernel
theorem dX5_extend_107 : decode cX5_extend 107 = .ok (.iload 5, 2) := by decide +kernel
theorem dX5_extend_109 : decode cX5_extend 109 = .ok (.iconst 1, 1) := by decide +kernel
theorem dX5_extend_110 : decode cX5_extend 110 = .ok (.iadd, 1) := by decide +kernel
theorem dX5_extend_111 : decode cX5_extend 111 = .ok (.iload_n 3, 1) := by decide +kernel
theorem dX5_extend_112 : decode cX5_extend 112 = .ok (.iconst 1, 1) := by decide +kernel
theorem dX5_extend_113 : decode cX5_extend 113 = .ok (.iadd, 1) := by decide +kernel
theorem dX5_extend_114 : decode cX5_extend 114 = .ok (.invokestatic 285, 3) := by decide +kernel
theorem dX5_extend_117 : decode cX5_extend 117 = .ok (.iinc 5 1, 3) := by decide +kernel
theorem dX5_extend_120 : decode cX5_extend 120 = .ok (.goto (-82), 3) := by decide +kernel
theorem dX5_extend_123 : decode cX5_extend 123 = .ok (.return_, 1) := by decide +kernel
theorem dJ6_bitCount_0f7a4_0 : decode cJ6_bitCount_0f7a4 0 = .ok (.iload_n 0, 1) := by decide +kernel
theorem dJ6_bitCount_0f7a4_1 : decode cJ6_bitCount_0f7a4 1 = .ok (.iload_n 0, 1) := by decide +kernel
theorem dJ6_bitCount_0f7a4_2 : decode cJ6_bitCount_0f7a4 2 = .ok (.iconst 1, 1) := by decide +kernel
theorem dJ6_bitCount_0f7a4_3 : decode cJ6_bitCount_0f7a4 3 = .ok (.iushr, 1) := by decide +kernel
theorem dJ6_bitCount_0f7a4_4 : decode cJ6_bitCount_0f7a4 4 = .ok (.ldc_w 265, 3) := by decide +kernel
theorem dJ6_bitCount_0f7a4_7 : decode cJ6_bitCount_0f7a4 7 = .ok (.iand, 1) := by decide +kernel
theorem dJ6_bitCount_0f7a4_8 : decode cJ6_bitCount_0f7a4 8 = .ok (.isub, 1) := by decide +kernel
theorem dJ6_bitCount_0f7a4_9 : decode cJ6_bitCount_0f7a4 9 = .ok (.istore_n 0, 1) := by decide +kernel
theorem dJ6_bitCount_0f7a4_10 : decode cJ6_bitCount_0f7a4 10 = .ok (.iload_n 0, 1) := by decide +kernel
theorem dJ6_bitCount_0f7a4_11 : decode cJ6_bitCount_0f7a4 11 = .ok (.ldc_w 266, 3) := by decide +kernel
theorem dJ6_bitCount_0f7a4_14 : decode cJ6_bitCount_0f7a4 14 = .ok (.iand, 1) := by decide +kernel
theorem dJ6_bitCount_0f7a4_15 : decode cJ6_bitCount_0f7a4 15 = .ok (.iload_n 0, 1) := by decide +kernel
theorem dJ6_bitCount_0f7a4_16 : decode cJ6_bitCount_0f7a4 16 = .ok (.iconst 2, 1) := by decide +kernel
theorem dJ6_bitCount_0f7a4_17 : decode cJ6_bitCount_0f7a4 17 = .ok (.iushr, 1) := by decide +kernel
theorem dJ6_bitCount_0f7a4_18 : decode cJ6_bitCount_0f7a4 18 = .ok (.ldc_w 266, 3) := by decide +kernel
theorem dJ6_bitCount_0f7a4_21 : decode cJ6_bitCount_0f7a4 21 = .ok (.iand, 1) := by decide +kernel
theorem dJ6_bitCount_0f7a4_22 : decode cJ6_bitCount_0f7a4 22 = .ok (.iadd, 1) := by decide +kernel
theorem dJ6_bitCount_0f7a4_23 : decode cJ6_bitCount_0f7a4 23 = .ok (.istore_n 0, 1) := by decide +kernel
theorem dJ6_bitCount_0f7a4_24 : decode cJ6_bitCount_0f7a4 24 = .ok (.iload_n 0, 1) := by decide +kernel
theorem dJ6_bitCount_0f7a4_25 : decode cJ6_bitCount_0f7a4 25 = .ok (.iload_n 0, 1) := by decide +kernel
theorem dJ6_bitCount_0f7a4_26 : decode cJ6_bitCount_0f7a4 26 = .ok (.iconst 4, 1) := by decide +kernel
theorem dJ6_bitCount_0f7a4_27 : decode cJ6_bitCount_0f7a4 27 = .ok (.iushr, 1) := by decide +kernel
theorem dJ6_bitCount_0f7a4_28 : decode cJ6_bitCount_0f7a4 28 = .ok (.iadd, 1) := by decide +kernel
theorem dJ6_bitCount_0f7a4_29 : decode cJ6_bitCount_0f7a4 29 = .ok (.ldc_w 267, 3) := by decide +kernel
theorem dJ6_bitCount_0f7a4_32 : decode cJ6_bitCount_0f7a4 32 = .ok (.iand, 1) := by decide +kernel
theorem dJ6_bitCount_0f7a4_33 : decode cJ6_bitCount_0f7a4 33 = .ok (.istore_n 0, 1) := by decide +kernel
theorem dJ6_bitCount_0f7a4_34 : decode cJ6_bitCount_0f7a4 34 = .ok (.iload_n 0, 1) := by decide +kernel
theorem dJ6_bitCount_0f7a4_35 : decode cJ6_bitCount_0f7a4 35 = .ok (.iload_n 0, 1) := by decide +kernel
theorem dJ6_bitCount_0f7a4_36 : decode cJ6_bitCount_0f7a4 36 = .ok (.bipush 8, 2) := by decide +kernel
theorem dJ6_bitCount_0f7a4_38 : decode cJ6_bitCount_0f7a4 38 = .ok (.iushr, 1) := by decide +kernel
theorem dJ6_bitCount_0f7a4_39 : decode cJ6_bitCount_0f7a4 39 = .ok (.iadd, 1) := by decide +kernel
theorem dJ6_bitCount_0f7a4_40 : decode cJ6_bitCount_0f7a4 40 = .ok (.istore_n 0, 1) := by decide +kernel
theorem dJ6_bitCount_0f7a4_41 : decode cJ6_bitCount_0f7a4 41 = .ok (.iload_n 0, 1) := by decide +kernel
theorem dJ6_bitCount_0f7a4_42 : decode cJ6_bitCount_0f7a4 42 = .ok (.iload_n 0, 1) := by decide +kernel
theorem dJ6_bitCount_0f7a4_43 : decode cJ6_bitCount_0f7a4 43 = .ok (.bipush 16, 2) := by decide +kernel
theorem dJ6_bitCount_0f7a4_45 : decode cJ6_bitCount_0f7a4 45 = .ok (.iushr, 1) := by decide +kernel
theorem dJ6_bitCount_0f7a4_46 : decode cJ6_bitCount_0f7a4 46 = .ok (.iadd, 1) := by decide +kernel
theorem dJ6_bitCount_0f7a4_47 : decode cJ6_bitCount_0f7a4 47 = .ok (.istore_n 0, 1) := by decide +kernel
theorem dJ6_bitCount_0f7a4_48 : decode cJ6_bitCount_0f7a4 48 = .ok (.iload_n 0, 1) := by decide +kernel
theorem dJ6_bitCount_0f7a4_49 : decode cJ6_bitCount_0f7a4 49 = .ok (.bipush 63, 2) := by decide +kernel
theorem dJ6_bitCount_0f7a4_51 : decode cJ6_bitCount_0f7a4 51 = .ok (.iand, 1) := by decide +kernel
theorem dJ6_bitCount_0f7a4_52 : decode cJ6_bitCount_0f7a4 52 = .ok (.ireturn, 1) := by decide +kernel
theorem dJ9_min_7cf53_0 : decode cJ9_min_7cf53 0 = .ok (.iload_n 0, 1) := by decide +kernel
theorem dJ9_min_7cf53_1 : decode cJ9_min_7cf53 1 = .ok (.iload_n 1, 1) := by decide +kernel
theorem dJ9_min_7cf53_2 : decode cJ9_min_7cf53 2 = .ok (.if_icmp .gt 7, 3) := by decide +kernel
theorem dJ9_min_7cf53_5 : decode cJ9_min_7cf53 5 = .ok (.iload_n 0, 1) := by decide +kernel
theorem dJ9_min_7cf53_6 : decode cJ9_min_7cf53 6 = .ok (.goto 4, 3) := by decide +kernel
theorem dJ9_min_7cf53_9 : decode cJ9_min_7cf53 9 = .ok (.iload_n 1, 1) := by decide +kernel
theorem dJ9_min_7cf53_10 : decode cJ9_min_7cf53 10 = .ok (.ireturn, 1) := by decide +kernel
theorem dJ7_fill_53178_0 : decode cJ7_fill_53178 0 = .ok (.iconst 0, 1) := by decide +kernel
theorem dJ7_fill_53178_1 : decode cJ7_fill_53178 1 = .ok (.istore_n 2, 1) := by decide +kernel
theorem dJ7_fill_53178_2 : decode cJ7_fill_53178 2 = .ok (.aload_n 0, 1) := by decide +kernel
theorem dJ7_fill_53178_3 : decode cJ7_fill_53178 3 = .ok (.arraylength, 1) := by decide +kernel
theorem dJ7_fill_53178_4 : decode cJ7_fill_53178 4 = .ok (.istore_n 3, 1) := by decide +kernel
theorem dJ7_fill_53178_5 : decode cJ7_fill_53178 5 = .ok (.iload_n 2, 1) := by decide +kernel
theorem dJ7_fill_53178_6 : decode cJ7_fill_53178 6 = .ok (.iload_n 3, 1) := by decide +kernel
theorem dJ7_fill_53178_7 : decode cJ7_fill_53178 7 = .ok (.if_icmp .ge 13, 3) := by decide +kernel
theorem dJ7_fill_53178_10 : decode cJ7_fill_53178 10 = .ok (.aload_n 0, 1) := by decide +kernel
theorem dJ7_fill_53178_11 : decode cJ7_fill_53178 11 = .ok (.iload_n 2, 1) := by decide +kernel
theorem dJ7_fill_53178_12 : decode cJ7_fill_53178 12 = .ok (.iload_n 1, 1) := by decide +kernel
theorem dJ7_fill_53178_13 : decode cJ7_fill_53178 13 = .ok (.iastore, 1) := by decide +kernel
theorem dJ7_fill_53178_14 : decode cJ7_fill_53178 14 = .ok (.iinc 2 1, 3) := by decide +kernel
theorem dJ7_fill_53178_17 : decode cJ7_fill_53178 17 = .ok (.goto (-12), 3) := by decide +kernel
theorem dJ7_fill_53178_20 : decode cJ7_fill_53178 20 = .ok (.return_, 1) := by decide +kernel
theorem dL_below_0 : decode cL_below 0 = .ok (.iload_n 0, 1) := by decide +kernel
theorem dL_below_1 : decode cL_below 1 = .ok (.ldc 7, 2) := by decide +kernel
theorem dL_below_3 : decode cL_below 3 = .ok (.iand, 1) := by decide +kernel
theorem dL_below_4 : decode cL_below 4 = .ok (.iload_n 1, 1) := by decide +kernel
theorem dL_below_5 : decode cL_below 5 = .ok (.irem, 1) := by decide +kernel
theorem dL_below_6 : decode cL_below 6 = .ok (.ireturn, 1) := by decide +kernel
theorem dL_cell_0 : decode cL_cell 0 = .ok (.iload_n 1, 1) := by decide +kernel
theorem dL_cell_1 : decode cL_cell 1 = .ok (.aload_n 0, 1) := by decide +kernel
theorem dL_cell_2 : decode cL_cell 2 = .ok (.arraylength, 1) := by decide +kernel
theorem dL_cell_3 : decode cL_cell 3 = .ok (.if_icmp .ge 9, 3) := by decide +kernel
theorem dL_cell_6 : decode cL_cell 6 = .ok (.aload_n 0, 1) := by decide +kernel
theorem dL_cell_7 : decode cL_cell 7 = .ok (.iload_n 1, 1) := by decide +kernel
theorem dL_cell_8 : decode cL_cell 8 = .ok (.iaload, 1) := by decide +kernel
theorem dL_cell_9 : decode cL_cell 9 = .ok (.goto 9, 3) := by decide +kernel
theorem dL_cell_12 : decode cL_cell 12 = .ok (.ldc 8, 2) := by decide +kernel
theorem dL_cell_14 : decode cL_cell 14 = .ok (.iload_n 1, 1) := by decide +kernel
theorem dL_cell_15 : decode cL_cell 15 = .ok (.iconst 3, 1) := by decide +kernel
theorem dL_cell_16 : decode cL_cell 16 = .ok (.iadd, 1) := by decide +kernel
theorem dL_cell_17 : decode cL_cell 17 = .ok (.imul, 1) := by decide +kernel
theorem dL_cell_18 : decode cL_cell 18 = .ok (.ireturn, 1) := by decide +kernel
theorem dL_build_0 : decode cL_build 0 = .ok (.iconst 1, 1) := by decide +kernel
theorem dL_build_1 : decode cL_build 1 = .ok (.aload_n 1, 1) := by decide +kernel
theorem dL_build_2 : decode cL_build 2 = .ok (.iload_n 2, 1) := by decide +kernel
theorem dL_build_3 : decode cL_build 3 = .ok (.invokestatic 9, 3) := by decide +kernel
theorem dL_build_6 : decode cL_build 6 = .ok (.iload_n 3, 1) := by decide +kernel
theorem dL_build_7 : decode cL_build 7 = .ok (.invokestatic 15, 3) := by decide +kernel
theorem dL_build_10 : decode cL_build 10 = .ok (.iadd, 1) := by decide +kernel
theorem dL_build_11 : decode cL_build 11 = .ok (.istore 7, 2) := by decide +kernel
theorem dL_build_13 : decode cL_build 13 = .ok (.iconst 0, 1) := by decide +kernel
theorem dL_build_14 : decode cL_build 14 = .ok (.istore 8, 2) := by decide +kernel
theorem dL_build_16 : decode cL_build 16 = .ok (.iload 8, 2) := by decide +kernel
theorem dL_build_18 : decode cL_build 18 = .ok (.iload 7, 2) := by decide +kernel
theorem dL_build_20 : decode cL_build 20 = .ok (.if_icmp .ge 153, 3) := by decide +kernel
theorem dL_build_23 : decode cL_build 23 = .ok (.aload_n 1, 1) := by decide +kernel
theorem dL_build_24 : decode cL_build 24 = .ok (.iload_n 2, 1) := by decide +kernel
theorem dL_build_25 : decode cL_build 25 = .ok (.iconst 1, 1) := by decide +kernel
theorem dL_build_26 : decode cL_build 26 = .ok (.iadd, 1) := by decide +kernel
theorem dL_build_27 : decode cL_build 27 = .ok (.iload 8, 2) := by decide +kernel
theorem dL_build_29 : decode cL_build 29 = .ok (.iconst 3, 1) := by decide +kernel
theorem dL_build_30 : decode cL_build 30 = .ok (.irem, 1) := by decide +kernel
theorem dL_build_31 : decode cL_build 31 = .ok (.iadd, 1) := by decide +kernel
theorem dL_build_32 : decode cL_build 32 = .ok (.invokestatic 9, 3) := by decide +kernel
theorem dL_build_35 : decode cL_build 35 = .ok (.iload 8, 2) := by decide +kernel
theorem dL_build_37 : decode cL_build 37 = .ok (.iconst 3, 1) := by decide +kernel
theorem dL_build_38 : decode cL_build 38 = .ok (.idiv, 1) := by decide +kernel
theorem dL_build_39 : decode cL_build 39 = .ok (.bipush 9, 2) := by decide +kernel
theorem dL_build_41 : decode cL_build 41 = .ok (.imul, 1) := by decide +kernel
theorem dL_build_42 : decode cL_build 42 = .ok (.ishr, 1) := by decide +kernel
theorem dL_build_43 : decode cL_build 43 = .ok (.istore 9, 2) := by decide +kernel
theorem dL_build_45 : decode cL_build 45 = .ok (.aload 5, 2) := by decide +kernel
theorem dL_build_47 : decode cL_build 47 = .ok (.iconst 3, 1) := by decide +kernel
theorem dL_build_48 : decode cL_build 48 = .ok (.iload 8, 2) := by decide +kernel
theorem dL_build_50 : decode cL_build 50 = .ok (.imul, 1) := by decide +kernel
theorem dL_build_51 : decode cL_build 51 = .ok (.iload 9, 2) := by decide +kernel
theorem dL_build_53 : decode cL_build 53 = .ok (.iconst 3, 1) := by decide +kernel
theorem dL_build_54 : decode cL_build 54 = .ok (.invokestatic 15, 3) := by decide +kernel
theorem dL_build_57 : decode cL_build 57 = .ok (.ifCond .ne 17, 3) := by decide +kernel
theorem dL_build_60 : decode cL_build 60 = .ok (.iconst 1, 1) := by decide +kernel
theorem dL_build_61 : decode cL_build 61 = .ok (.iload 9, 2) := by decide +kernel
theorem dL_build_63 : decode cL_build 63 = .ok (.iconst 2, 1) := by decide +kernel
theorem dL_build_64 : decode cL_build 64 = .ok (.ishr, 1) := by decide +kernel
theorem dL_build_65 : decode cL_build 65 = .ok (.bipush 12, 2) := by decide +kernel
theorem dL_build_67 : decode cL_build 67 = .ok (.invokestatic 15, 3) := by decide +kernel
theorem dL_build_70 : decode cL_build 70 = .ok (.iadd, 1) := by decide +kernel
theorem dL_build_71 : decode cL_build 71 = .ok (.goto 15, 3) := by decide +kernel
theorem dL_build_74 : decode cL_build 74 = .ok (.iconst 1, 1) := by decide +kernel
theorem dL_build_75 : decode cL_build 75 = .ok (.iload 9, 2) := by decide +kernel
theorem dL_build_77 : decode cL_build 77 = .ok (.iconst 2, 1) := by decide +kernel
theorem dL_build_78 : decode cL_build 78 = .ok (.ishr, 1) := by decide +kernel
theorem dL_build_79 : decode cL_build 79 = .ok (.sipush 900, 3) := by decide +kernel
theorem dL_build_82 : decode cL_build 82 = .ok (.invokestatic 15, 3) := by decide +kernel
theorem dL_build_85 : decode cL_build 85 = .ok (.iadd, 1) := by decide +kernel
theorem dL_build_86 : decode cL_build 86 = .ok (.iastore, 1) := by decide +kernel
theorem dL_build_87 : decode cL_build 87 = .ok (.aload 5, 2) := by decide +kernel
theorem dL_build_89 : decode cL_build 89 = .ok (.iconst 3, 1) := by decide +kernel
theorem dL_build_90 : decode cL_build 90 = .ok (.iload 8, 2) := by decide +kernel
theorem dL_build_92 : decode cL_build 92 = .ok (.imul, 1) := by decide +kernel
theorem dL_build_93 : decode cL_build 93 = .ok (.iconst 1, 1) := by decide +kernel
theorem dL_build_94 : decode cL_build 94 = .ok (.iadd, 1) := by decide +kernel
theorem dL_build_95 : decode cL_build 95 = .ok (.iload 9, 2) := by decide +kernel
theorem dL_build_97 : decode cL_build 97 = .ok (.iconst 5, 1) := by decide +kernel
theorem dL_build_98 : decode cL_build 98 = .ok (.ishr, 1) := by decide +kernel
theorem dL_build_99 : decode cL_build 99 = .ok (.iconst 3, 1) := by decide +kernel
theorem dL_build_100 : decode cL_build 100 = .ok (.invokestatic 15, 3) := by decide +kernel
theorem dL_build_103 : decode cL_build 103 = .ok (.iastore, 1) := by decide +kernel
theorem dL_build_104 : decode cL_build 104 = .ok (.aload 5, 2) := by decide +kernel
theorem dL_build_106 : decode cL_build 106 = .ok (.iconst 3, 1) := by decide +kernel
theorem dL_build_107 : decode cL_build 107 = .ok (.iload 8, 2) := by decide +kernel
theorem dL_build_109 : decode cL_build 109 = .ok (.imul, 1) := by decide +kernel
theorem dL_build_110 : decode cL_build 110 = .ok (.iconst 2, 1) := by decide +kernel
theorem dL_build_111 : decode cL_build 111 = .ok (.iadd, 1) := by decide +kernel
theorem dL_build_112 : decode cL_build 112 = .ok (.iload 9, 2) := by decide +kernel
theorem dL_build_114 : decode cL_build 114 = .ok (.bipush 7, 2) := by decide +kernel
theorem dL_build_116 : decode cL_build 116 = .ok (.ishr, 1) := by decide +kernel
theorem dL_build_117 : decode cL_build 117 = .ok (.iconst 4, 1) := by decide +kernel
theorem dL_build_118 : decode cL_build 118 = .ok (.invokestatic 15, 3) := by decide +kernel
theorem dL_build_121 : decode cL_build 121 = .ok (.iastore, 1) := by decide +kernel
theorem dL_build_122 : decode cL_build 122 = .ok (.aload_n 0, 1) := by decide +kernel
theorem dL_build_123 : decode cL_build 123 = .ok (.aload 5, 2) := by decide +kernel
theorem dL_build_125 : decode cL_build 125 = .ok (.iconst 3, 1) := by decide +kernel
theorem dL_build_126 : decode cL_build 126 = .ok (.iload 8, 2) := by decide +kernel
theorem dL_build_128 : decode cL_build 128 = .ok (.imul, 1) := by decide +kernel
theorem dL_build_129 : decode cL_build 129 = .ok (.iaload, 1) := by decide +kernel
theorem dL_build_130 : decode cL_build 130 = .ok (.aload 5, 2) := by decide +kernel
theorem dL_build_132 : decode cL_build 132 = .ok (.iconst 3, 1) := by decide +kernel
theorem dL_build_133 : decode cL_build 133 = .ok (.iload 8, 2) := by decide +kernel
theorem dL_build_135 : decode cL_build 135 = .ok (.imul, 1) := by decide +kernel
theorem dL_build_136 : decode cL_build 136 = .ok (.iconst 1, 1) := by decide +kernel
theorem dL_build_137 : decode cL_build 137 = .ok (.iadd, 1) := by decide +kernel
theorem dL_build_138 : decode cL_build 138 = .ok (.iaload, 1) := by decide +kernel
theorem dL_build_139 : decode cL_build 139 = .ok (.invokevirtual 19, 3) := by decide +kernel
theorem dL_build_142 : decode cL_build 142 = .ok (.iload 8, 2) := by decide +kernel
theorem dL_build_144 : decode cL_build 144 = .ok (.if_icmp .ne 21, 3) := by decide +kernel
theorem dL_build_147 : decode cL_build 147 = .ok (.aload_n 0, 1) := by decide +kernel
theorem dL_build_148 : decode cL_build 148 = .ok (.iload 8, 2) := by decide +kernel
theorem dL_build_150 : decode cL_build 150 = .ok (.aload 5, 2) := by decide +kernel
theorem dL_build_152 : decode cL_build 152 = .ok (.iconst 3, 1) := by decide +kernel
theorem dL_build_153 : decode cL_build 153 = .ok (.iload 8, 2) := by decide +kernel
theorem dL_build_155 : decode cL_build 155 = .ok (.imul, 1) := by decide +kernel
theorem dL_build_156 : decode cL_build 156 = .ok (.iconst 2, 1) := by decide +kernel
theorem dL_build_157 : decode cL_build 157 = .ok (.iadd, 1) := by decide +kernel
theorem dL_build_158 : decode cL_build 158 = .ok (.iaload, 1) := by decide +kernel
theorem dL_build_159 : decode cL_build 159 = .ok (.invokevirtual 24, 3) := by decide +kernel
theorem dL_build_162 : decode cL_build 162 = .ok (.ifCond .eq 5, 3) := by decide +kernel
theorem dL_build_165 : decode cL_build 165 = .ok (.aconst_null, 1) := by decide +kernel
theorem dL_build_166 : decode cL_build 166 = .ok (.areturn, 1) := by decide +kernel
theorem dL_build_167 : decode cL_build 167 = .ok (.iinc 8 1, 3) := by decide +kernel
theorem dL_build_170 : decode cL_build 170 = .ok (.goto (-154), 3) := by decide +kernel
theorem dL_build_173 : decode cL_build 173 = .ok (.aload_n 1, 1) := by decide +kernel
theorem dL_build_174 : decode cL_build 174 = .ok (.iload_n 2, 1) := by decide +kernel
theorem dL_build_175 : decode cL_build 175 = .ok (.invokestatic 9, 3) := by decide +kernel
theorem dL_build_178 : decode cL_build 178 = .ok (.iconst 4, 1) := by decide +kernel
theorem dL_build_179 : decode cL_build 179 = .ok (.ishr, 1) := by decide +kernel
theorem dL_build_180 : decode cL_build 180 = .ok (.iload 4, 2) := by decide +kernel
theorem dL_build_182 : decode cL_build 182 = .ok (.iconst 1, 1) := by decide +kernel
theorem dL_build_183 : decode cL_build 183 = .ok (.iadd, 1) := by decide +kernel
theorem dL_build_184 : decode cL_build 184 = .ok (.invokestatic 15, 3) := by decide +kernel
theorem dL_build_187 : decode cL_build 187 = .ok (.istore 8, 2) := by decide +kernel
theorem dL_build_189 : decode cL_build 189 = .ok (.iconst 0, 1) := by decide +kernel
theorem dL_build_190 : decode cL_build 190 = .ok (.istore 9, 2) := by decide +kernel
theorem dL_build_192 : decode cL_build 192 = .ok (.iload 9, 2) := by decide +kernel
theorem dL_build_194 : decode cL_build 194 = .ok (.iload 8, 2) := by decide +kernel
theorem dL_build_196 : decode cL_build 196 = .ok (.if_icmp .ge 284, 3) := by decide +kernel
theorem dL_build_199 : decode cL_build 199 = .ok (.aload_n 1, 1) := by decide +kernel
theorem dL_build_200 : decode cL_build 200 = .ok (.iload_n 2, 1) := by decide +kernel
theorem dL_build_201 : decode cL_build 201 = .ok (.iconst 4, 1) := by decide +kernel
theorem dL_build_202 : decode cL_build 202 = .ok (.iadd, 1) := by decide +kernel
theorem dL_build_203 : decode cL_build 203 = .ok (.iload 9, 2) := by decide +kernel
theorem dL_build_205 : decode cL_build 205 = .ok (.iconst 4, 1) := by decide +kernel
theorem dL_build_206 : decode cL_build 206 = .ok (.irem, 1) := by decide +kernel
theorem dL_build_207 : decode cL_build 207 = .ok (.iadd, 1) := by decide +kernel
theorem dL_build_208 : decode cL_build 208 = .ok (.invokestatic 9, 3) := by decide +kernel
theorem dL_build_211 : decode cL_build 211 = .ok (.iload 9, 2) := by decide +kernel
theorem dL_build_213 : decode cL_build 213 = .ok (.iconst 4, 1) := by decide +kernel
theorem dL_build_214 : decode cL_build 214 = .ok (.idiv, 1) := by decide +kernel
theorem dL_build_215 : decode cL_build 215 = .ok (.bipush 10, 2) := by decide +kernel
theorem dL_build_217 : decode cL_build 217 = .ok (.imul, 1) := by decide +kernel
theorem dL_build_218 : decode cL_build 218 = .ok (.ishr, 1) := by decide +kernel
theorem dL_build_219 : decode cL_build 219 = .ok (.istore 10, 2) := by decide +kernel
theorem dL_build_221 : decode cL_build 221 = .ok (.bipush 6, 2) := by decide +kernel
theorem dL_build_223 : decode cL_build 223 = .ok (.iload 9, 2) := by decide +kernel
theorem dL_build_225 : decode cL_build 225 = .ok (.imul, 1) := by decide +kernel
theorem dL_build_226 : decode cL_build 226 = .ok (.istore 11, 2) := by decide +kernel
theorem dL_build_228 : decode cL_build 228 = .ok (.aload 6, 2) := by decide +kernel
theorem dL_build_230 : decode cL_build 230 = .ok (.iload 11, 2) := by decide +kernel
theorem dL_build_232 : decode cL_build 232 = .ok (.iload 10, 2) := by decide +kernel
theorem dL_build_234 : decode cL_build 234 = .ok (.iconst 5, 1) := by decide +kernel
theorem dL_build_235 : decode cL_build 235 = .ok (.invokestatic 15, 3) := by decide +kernel
theorem dL_build_238 : decode cL_build 238 = .ok (.iconst 4, 1) := by decide +kernel
theorem dL_build_239 : decode cL_build 239 = .ok (.irem, 1) := by decide +kernel
theorem dL_build_240 : decode cL_build 240 = .ok (.iastore, 1) := by decide +kernel
theorem dL_build_241 : decode cL_build 241 = .ok (.aload 6, 2) := by decide +kernel
theorem dL_build_243 : decode cL_build 243 = .ok (.iload 11, 2) := by decide +kernel
theorem dL_build_245 : decode cL_build 245 = .ok (.iconst 1, 1) := by decide +kernel
theorem dL_build_246 : decode cL_build 246 = .ok (.iadd, 1) := by decide +kernel
theorem dL_build_247 : decode cL_build 247 = .ok (.aload 6, 2) := by decide +kernel
theorem dL_build_249 : decode cL_build 249 = .ok (.iload 11, 2) := by decide +kernel
theorem dL_build_251 : decode cL_build 251 = .ok (.iaload, 1) := by decide +kernel
theorem dL_build_252 : decode cL_build 252 = .ok (.ifCond .ne 17, 3) := by decide +kernel
theorem dL_build_255 : decode cL_build 255 = .ok (.iconst 1, 1) := by decide +kernel
theorem dL_build_256 : decode cL_build 256 = .ok (.iload 10, 2) := by decide +kernel
theorem dL_build_258 : decode cL_build 258 = .ok (.iconst 3, 1) := by decide +kernel
theorem dL_build_259 : decode cL_build 259 = .ok (.ishr, 1) := by decide +kernel
theorem dL_build_260 : decode cL_build 260 = .ok (.bipush 60, 2) := by decide +kernel
theorem dL_build_262 : decode cL_build 262 = .ok (.invokestatic 15, 3) := by decide +kernel
theorem dL_build_265 : decode cL_build 265 = .ok (.iadd, 1) := by decide +kernel
theorem dL_build_266 : decode cL_build 266 = .ok (.goto 50, 3) := by decide +kernel
theorem dL_build_269 : decode cL_build 269 = .ok (.aload 6, 2) := by decide +kernel
theorem dL_build_271 : decode cL_build 271 = .ok (.iload 11, 2) := by decide +kernel
theorem dL_build_273 : decode cL_build 273 = .ok (.iaload, 1) := by decide +kernel
theorem dL_build_274 : decode cL_build 274 = .ok (.iconst 1, 1) := by decide +kernel
theorem dL_build_275 : decode cL_build 275 = .ok (.if_icmp .ne 18, 3) := by decide +kernel
theorem dL_build_278 : decode cL_build 278 = .ok (.iconst 1, 1) := by decide +kernel
theorem dL_build_279 : decode cL_build 279 = .ok (.iload 10, 2) := by decide +kernel
theorem dL_build_281 : decode cL_build 281 = .ok (.iconst 3, 1) := by decide +kernel
theorem dL_build_282 : decode cL_build 282 = .ok (.ishr, 1) := by decide +kernel
theorem dL_build_283 : decode cL_build 283 = .ok (.sipush 700, 3) := by decide +kernel
theorem dL_build_286 : decode cL_build 286 = .ok (.invokestatic 15, 3) := by decide +kernel
theorem dL_build_289 : decode cL_build 289 = .ok (.iadd, 1) := by decide +kernel
theorem dL_build_290 : decode cL_build 290 = .ok (.goto 26, 3) := by decide +kernel
theorem dL_build_293 : decode cL_build 293 = .ok (.aload 6, 2) := by decide +kernel
theorem dL_build_295 : decode cL_build 295 = .ok (.iload 11, 2) := by decide +kernel
theorem dL_build_297 : decode cL_build 297 = .ok (.iaload, 1) := by decide +kernel
theorem dL_build_298 : decode cL_build 298 = .ok (.iconst 2, 1) := by decide +kernel
theorem dL_build_299 : decode cL_build 299 = .ok (.if_icmp .ne 16, 3) := by decide +kernel
theorem dL_build_302 : decode cL_build 302 = .ok (.iconst 2, 1) := by decide +kernel
theorem dL_build_303 : decode cL_build 303 = .ok (.iload 10, 2) := by decide +kernel
theorem dL_build_305 : decode cL_build 305 = .ok (.iconst 3, 1) := by decide +kernel
theorem dL_build_306 : decode cL_build 306 = .ok (.ishr, 1) := by decide +kernel
theorem dL_build_307 : decode cL_build 307 = .ok (.iconst 3, 1) := by decide +kernel
theorem dL_build_308 : decode cL_build 308 = .ok (.invokestatic 15, 3) := by decide +kernel
theorem dL_build_311 : decode cL_build 311 = .ok (.iadd, 1) := by decide +kernel
theorem dL_build_312 : decode cL_build 312 = .ok (.goto 4, 3) := by decide +kernel
theorem dL_build_315 : decode cL_build 315 = .ok (.iconst 0, 1) := by decide +kernel
theorem dL_build_316 : decode cL_build 316 = .ok (.iastore, 1) := by decide +kernel
theorem dL_build_317 : decode cL_build 317 = .ok (.aload 6, 2) := by decide +kernel
theorem dL_build_319 : decode cL_build 319 = .ok (.iload 11, 2) := by decide +kernel
theorem dL_build_321 : decode cL_build 321 = .ok (.iconst 2, 1) := by decide +kernel
theorem dL_build_322 : decode cL_build 322 = .ok (.iadd, 1) := by decide +kernel
theorem dL_build_323 : decode cL_build 323 = .ok (.iload 10, 2) := by decide +kernel
theorem dL_build_325 : decode cL_build 325 = .ok (.iconst 5, 1) := by decide +kernel
theorem dL_build_326 : decode cL_build 326 = .ok (.ishr, 1) := by decide +kernel
theorem dL_build_327 : decode cL_build 327 = .ok (.iconst 2, 1) := by decide +kernel
theorem dL_build_328 : decode cL_build 328 = .ok (.invokestatic 15, 3) := by decide +kernel
theorem dL_build_331 : decode cL_build 331 = .ok (.ifCond .ne 9, 3) := by decide +kernel
theorem dL_build_334 : decode cL_build 334 = .ok (.sipush 255, 3) := by decide +kernel
theorem dL_build_337 : decode cL_build 337 = .ok (.goto 15, 3) := by decide +kernel
theorem dL_build_340 : decode cL_build 340 = .ok (.iconst 1, 1) := by decide +kernel
theorem dL_build_341 : decode cL_build 341 = .ok (.iload 10, 2) := by decide +kernel
theorem dL_build_343 : decode cL_build 343 = .ok (.bipush 6, 2) := by decide +kernel
theorem dL_build_345 : decode cL_build 345 = .ok (.ishr, 1) := by decide +kernel
theorem dL_build_346 : decode cL_build 346 = .ok (.bipush 7, 2) := by decide +kernel
theorem dL_build_348 : decode cL_build 348 = .ok (.invokestatic 15, 3) := by decide +kernel
theorem dL_build_351 : decode cL_build 351 = .ok (.iadd, 1) := by decide +kernel
theorem dL_build_352 : decode cL_build 352 = .ok (.iastore, 1) := by decide +kernel
theorem dL_build_353 : decode cL_build 353 = .ok (.aload 6, 2) := by decide +kernel
theorem dL_build_355 : decode cL_build 355 = .ok (.iload 11, 2) := by decide +kernel
theorem dL_build_357 : decode cL_build 357 = .ok (.iconst 3, 1) := by decide +kernel
theorem dL_build_358 : decode cL_build 358 = .ok (.iadd, 1) := by decide +kernel
theorem dL_build_359 : decode cL_build 359 = .ok (.iload 10, 2) := by decide +kernel
theorem dL_build_361 : decode cL_build 361 = .ok (.bipush 8, 2) := by decide +kernel
theorem dL_build_363 : decode cL_build 363 = .ok (.ishr, 1) := by decide +kernel
theorem dL_build_364 : decode cL_build 364 = .ok (.iconst 2, 1) := by decide +kernel
theorem dL_build_365 : decode cL_build 365 = .ok (.invokestatic 15, 3) := by decide +kernel
theorem dL_build_368 : decode cL_build 368 = .ok (.ifCond .ne 7, 3) := by decide +kernel
theorem dL_build_371 : decode cL_build 371 = .ok (.iconst 0, 1) := by decide +kernel
theorem dL_build_372 : decode cL_build 372 = .ok (.goto 14, 3) := by decide +kernel
theorem dL_build_375 : decode cL_build 375 = .ok (.iload 10, 2) := by decide +kernel
theorem dL_build_377 : decode cL_build 377 = .ok (.bipush 9, 2) := by decide +kernel
theorem dL_build_379 : decode cL_build 379 = .ok (.ishr, 1) := by decide +kernel
theorem dL_build_380 : decode cL_build 380 = .ok (.sipush 900, 3) := by decide +kernel
theorem dL_build_383 : decode cL_build 383 = .ok (.invokestatic 15, 3) := by decide +kernel
theorem dL_build_386 : decode cL_build 386 = .ok (.iastore, 1) := by decide +kernel
theorem dL_build_387 : decode cL_build 387 = .ok (.aload 6, 2) := by decide +kernel
theorem dL_build_389 : decode cL_build 389 = .ok (.iload 11, 2) := by decide +kernel
theorem dL_build_391 : decode cL_build 391 = .ok (.iconst 4, 1) := by decide +kernel
theorem dL_build_392 : decode cL_build 392 = .ok (.iadd, 1) := by decide +kernel
theorem dL_build_393 : decode cL_build 393 = .ok (.iload 10, 2) := by decide +kernel
theorem dL_build_395 : decode cL_build 395 = .ok (.bipush 11, 2) := by decide +kernel
theorem dL_build_397 : decode cL_build 397 = .ok (.ishr, 1) := by decide +kernel
theorem dL_build_398 : decode cL_build 398 = .ok (.iconst 3, 1) := by decide +kernel
theorem dL_build_399 : decode cL_build 399 = .ok (.invokestatic 15, 3) := by decide +kernel
theorem dL_build_402 : decode cL_build 402 = .ok (.ifCond .ne 17, 3) := by decide +kernel
theorem dL_build_405 : decode cL_build 405 = .ok (.iconst 1, 1) := by decide +kernel
theorem dL_build_406 : decode cL_build 406 = .ok (.iload 10, 2) := by decide +kernel
theorem dL_build_408 : decode cL_build 408 = .ok (.bipush 12, 2) := by decide +kernel
theorem dL_build_410 : decode cL_build 410 = .ok (.ishr, 1) := by decide +kernel
theorem dL_build_411 : decode cL_build 411 = .ok (.iconst 3, 1) := by decide +kernel
theorem dL_build_412 : decode cL_build 412 = .ok (.invokestatic 15, 3) := by decide +kernel
theorem dL_build_415 : decode cL_build 415 = .ok (.iadd, 1) := by decide +kernel
theorem dL_build_416 : decode cL_build 416 = .ok (.goto 4, 3) := by decide +kernel
theorem dL_build_419 : decode cL_build 419 = .ok (.iconst 0, 1) := by decide +kernel
theorem dL_build_420 : decode cL_build 420 = .ok (.iastore, 1) := by decide +kernel
theorem dL_build_421 : decode cL_build 421 = .ok (.aload 6, 2) := by decide +kernel
theorem dL_build_423 : decode cL_build 423 = .ok (.iload 11, 2) := by decide +kernel
theorem dL_build_425 : decode cL_build 425 = .ok (.iconst 5, 1) := by decide +kernel
theorem dL_build_426 : decode cL_build 426 = .ok (.iadd, 1) := by decide +kernel
theorem dL_build_427 : decode cL_build 427 = .ok (.bipush 9, 2) := by decide +kernel
theorem dL_build_429 : decode cL_build 429 = .ok (.iastore, 1) := by decide +kernel
theorem dL_build_430 : decode cL_build 430 = .ok (.aload_n 0, 1) := by decide +kernel
theorem dL_build_431 : decode cL_build 431 = .ok (.aload 6, 2) := by decide +kernel
theorem dL_build_433 : decode cL_build 433 = .ok (.iload 11, 2) := by decide +kernel
theorem dL_build_435 : decode cL_build 435 = .ok (.iaload, 1) := by decide +kernel
theorem dL_build_436 : decode cL_build 436 = .ok (.aload 6, 2) := by decide +kernel
theorem dL_build_438 : decode cL_build 438 = .ok (.iload 11, 2) := by decide +kernel
theorem dL_build_440 : decode cL_build 440 = .ok (.iconst 1, 1) := by decide +kernel
theorem dL_build_441 : decode cL_build 441 = .ok (.iadd, 1) := by decide +kernel
theorem dL_build_442 : decode cL_build 442 = .ok (.iaload, 1) := by decide +kernel
theorem dL_build_443 : decode cL_build 443 = .ok (.aload 6, 2) := by decide +kernel
theorem dL_build_445 : decode cL_build 445 = .ok (.iload 11, 2) := by decide +kernel
theorem dL_build_447 : decode cL_build 447 = .ok (.iconst 2, 1) := by decide +kernel
theorem dL_build_448 : decode cL_build 448 = .ok (.iadd, 1) := by decide +kernel
theorem dL_build_449 : decode cL_build 449 = .ok (.iaload, 1) := by decide +kernel
theorem dL_build_450 : decode cL_build 450 = .ok (.aload 6, 2) := by decide +kernel
theorem dL_build_452 : decode cL_build 452 = .ok (.iload 11, 2) := by decide +kernel
theorem dL_build_454 : decode cL_build 454 = .ok (.iconst 3, 1) := by decide +kernel
theorem dL_build_455 : decode cL_build 455 = .ok (.iadd, 1) := by decide +kernel
theorem dL_build_456 : decode cL_build 456 = .ok (.iaload, 1) := by decide +kernel
theorem dL_build_457 : decode cL_build 457 = .ok (.aload 6, 2) := by decide +kernel
theorem dL_build_459 : decode cL_build 459 = .ok (.iload 11, 2) := by decide +kernel
theorem dL_build_461 : decode cL_build 461 = .ok (.iconst 4, 1) := by decide +kernel
theorem dL_build_462 : decode cL_build 462 = .ok (.iadd, 1) := by decide +kernel
theorem dL_build_463 : decode cL_build 463 = .ok (.iaload, 1) := by decide +kernel
theorem dL_build_464 : decode cL_build 464 = .ok (.invokevirtual 27, 3) := by decide +kernel
theorem dL_build_467 : decode cL_build 467 = .ok (.iload 9, 2) := by decide +kernel
theorem dL_build_469 : decode cL_build 469 = .ok (.if_icmp .eq 5, 3) := by decide +kernel
theorem dL_build_472 : decode cL_build 472 = .ok (.aconst_null, 1) := by decide +kernel
theorem dL_build_473 : decode cL_build 473 = .ok (.areturn, 1) := by decide +kernel
theorem dL_build_474 : decode cL_build 474 = .ok (.iinc 9 1, 3) := by decide +kernel
theorem dL_build_477 : decode cL_build 477 = .ok (.goto (-285), 3) := by decide +kernel
theorem dL_build_480 : decode cL_build 480 = .ok (.iconst 2, 1) := by decide +kernel
theorem dL_build_481 : decode cL_build 481 = .ok (.newarray .int, 2) := by decide +kernel
theorem dL_build_483 : decode cL_build 483 = .ok (.dup, 1) := by decide +kernel
theorem dL_build_484 : decode cL_build 484 = .ok (.iconst 0, 1) := by decide +kernel
theorem dL_build_485 : decode cL_build 485 = .ok (.iload 7, 2) := by decide +kernel
theorem dL_build_487 : decode cL_build 487 = .ok (.iastore, 1) := by decide +kernel
theorem dL_build_488 : decode cL_build 488 = .ok (.dup, 1) := by decide +kernel
theorem dL_build_489 : decode cL_build 489 = .ok (.iconst 1, 1) := by decide +kernel
theorem dL_build_490 : decode cL_build 490 = .ok (.iload 8, 2) := by decide +kernel
theorem dL_build_492 : decode cL_build 492 = .ok (.iastore, 1) := by decide +kernel
theorem dL_build_493 : decode cL_build 493 = .ok (.areturn, 1) := by decide +kernel
theorem dL_law_0 : decode cL_law 0 = .ok (.new 20, 3) := by decide +kernel
theorem dL_law_3 : decode cL_law 3 = .ok (.dup, 1) := by decide +kernel
theorem dL_law_4 : decode cL_law 4 = .ok (.invokespecial 55, 3) := by decide +kernel
theorem dL_law_7 : decode cL_law 7 = .ok (.astore_n 1, 1) := by decide +kernel
theorem dL_law_8 : decode cL_law 8 = .ok (.bipush 30, 2) := by decide +kernel
theorem dL_law_10 : decode cL_law 10 = .ok (.newarray .int, 2) := by decide +kernel
theorem dL_law_12 : decode cL_law 12 = .ok (.astore_n 2, 1) := by decide +kernel
theorem dL_law_13 : decode cL_law 13 = .ok (.bipush 48, 2) := by decide +kernel
theorem dL_law_15 : decode cL_law 15 = .ok (.newarray .int, 2) := by decide +kernel
theorem dL_law_17 : decode cL_law 17 = .ok (.astore_n 3, 1) := by decide +kernel
theorem dL_law_18 : decode cL_law 18 = .ok (.aload_n 1, 1) := by decide +kernel
theorem dL_law_19 : decode cL_law 19 = .ok (.aload_n 0, 1) := by decide +kernel
theorem dL_law_20 : decode cL_law 20 = .ok (.iconst 0, 1) := by decide +kernel
theorem dL_law_21 : decode cL_law 21 = .ok (.iconst 5, 1) := by decide +kernel
theorem dL_law_22 : decode cL_law 22 = .ok (.iconst 5, 1) := by decide +kernel
theorem dL_law_23 : decode cL_law 23 = .ok (.aload_n 2, 1) := by decide +kernel
theorem dL_law_24 : decode cL_law 24 = .ok (.aload_n 3, 1) := by decide +kernel
theorem dL_law_25 : decode cL_law 25 = .ok (.invokestatic 56, 3) := by decide +kernel
theorem dL_law_28 : decode cL_law 28 = .ok (.astore 4, 2) := by decide +kernel
theorem dL_law_30 : decode cL_law 30 = .ok (.aload 4, 2) := by decide +kernel
theorem dL_law_32 : decode cL_law 32 = .ok (.ifnonnull 5, 3) := by decide +kernel
theorem dL_law_35 : decode cL_law 35 = .ok (.iconst 0, 1) := by decide +kernel
theorem dL_law_36 : decode cL_law 36 = .ok (.ireturn, 1) := by decide +kernel
theorem dL_law_37 : decode cL_law 37 = .ok (.aload_n 1, 1) := by decide +kernel
theorem dL_law_38 : decode cL_law 38 = .ok (.aload_n 0, 1) := by decide +kernel
theorem dL_law_39 : decode cL_law 39 = .ok (.bipush 8, 2) := by decide +kernel
theorem dL_law_41 : decode cL_law 41 = .ok (.invokestatic 9, 3) := by decide +kernel
theorem dL_law_44 : decode cL_law 44 = .ok (.sipush 400, 3) := by decide +kernel
theorem dL_law_47 : decode cL_law 47 = .ok (.invokestatic 15, 3) := by decide +kernel
theorem dL_law_50 : decode cL_law 50 = .ok (.aload_n 0, 1) := by decide +kernel
theorem dL_law_51 : decode cL_law 51 = .ok (.bipush 8, 2) := by decide +kernel
theorem dL_law_53 : decode cL_law 53 = .ok (.invokestatic 9, 3) := by decide +kernel
theorem dL_law_56 : decode cL_law 56 = .ok (.iconst 5, 1) := by decide +kernel
theorem dL_law_57 : decode cL_law 57 = .ok (.ishr, 1) := by decide +kernel
theorem dL_law_58 : decode cL_law 58 = .ok (.sipush 2500, 3) := by decide +kernel
theorem dL_law_61 : decode cL_law 61 = .ok (.invokestatic 15, 3) := by decide +kernel
theorem dL_law_64 : decode cL_law 64 = .ok (.invokevirtual 60, 3) := by decide +kernel
theorem dL_law_67 : decode cL_law 67 = .ok (.pop, 1) := by decide +kernel
theorem dL_law_68 : decode cL_law 68 = .ok (.aload_n 1, 1) := by decide +kernel
theorem dL_law_69 : decode cL_law 69 = .ok (.invokevirtual 63, 3) := by decide +kernel
theorem dL_law_72 : decode cL_law 72 = .ok (.istore 5, 2) := by decide +kernel
theorem dL_law_74 : decode cL_law 74 = .ok (.aload_n 1, 1) := by decide +kernel
theorem dL_law_75 : decode cL_law 75 = .ok (.iload 5, 2) := by decide +kernel
theorem dL_law_77 : decode cL_law 77 = .ok (.invokevirtual 67, 3) := by decide +kernel
theorem dL_law_80 : decode cL_law 80 = .ok (.istore 6, 2) := by decide +kernel
theorem dL_law_82 : decode cL_law 82 = .ok (.iconst 0, 1) := by decide +kernel
theorem dL_law_83 : decode cL_law 83 = .ok (.istore 7, 2) := by decide +kernel
theorem dL_law_85 : decode cL_law 85 = .ok (.iload 7, 2) := by decide +kernel
theorem dL_law_87 : decode cL_law 87 = .ok (.iconst 1, 1) := by decide +kernel
theorem dL_law_88 : decode cL_law 88 = .ok (.aload 4, 2) := by decide +kernel
theorem dL_law_90 : decode cL_law 90 = .ok (.iconst 1, 1) := by decide +kernel
theorem dL_law_91 : decode cL_law 91 = .ok (.iaload, 1) := by decide +kernel
theorem dL_law_92 : decode cL_law 92 = .ok (.ishl, 1) := by decide +kernel
theorem dL_law_93 : decode cL_law 93 = .ok (.if_icmp .ge 104, 3) := by decide +kernel
theorem dL_law_96 : decode cL_law 96 = .ok (.aload_n 1, 1) := by decide +kernel
theorem dL_law_97 : decode cL_law 97 = .ok (.iload 7, 2) := by decide +kernel
theorem dL_law_99 : decode cL_law 99 = .ok (.invokevirtual 71, 3) := by decide +kernel
theorem dL_law_102 : decode cL_law 102 = .ok (.ifCond .ne 6, 3) := by decide +kernel
theorem dL_law_105 : decode cL_law 105 = .ok (.goto 86, 3) := by decide +kernel
theorem dL_law_108 : decode cL_law 108 = .ok (.aload_n 1, 1) := by decide +kernel
theorem dL_law_109 : decode cL_law 109 = .ok (.iload 7, 2) := by decide +kernel
theorem dL_law_111 : decode cL_law 111 = .ok (.invokevirtual 67, 3) := by decide +kernel
theorem dL_law_114 : decode cL_law 114 = .ok (.istore 8, 2) := by decide +kernel
theorem dL_law_116 : decode cL_law 116 = .ok (.iload 8, 2) := by decide +kernel
theorem dL_law_118 : decode cL_law 118 = .ok (.iload 6, 2) := by decide +kernel
theorem dL_law_120 : decode cL_law 120 = .ok (.if_icmp .lt 43, 3) := by decide +kernel
theorem dL_law_123 : decode cL_law 123 = .ok (.iload 8, 2) := by decide +kernel
theorem dL_law_125 : decode cL_law 125 = .ok (.iload 6, 2) := by decide +kernel
theorem dL_law_127 : decode cL_law 127 = .ok (.if_icmp .ne 38, 3) := by decide +kernel
theorem dL_law_130 : decode cL_law 130 = .ok (.iload 7, 2) := by decide +kernel
theorem dL_law_132 : decode cL_law 132 = .ok (.invokestatic 75, 3) := by decide +kernel
theorem dL_law_135 : decode cL_law 135 = .ok (.iload 5, 2) := by decide +kernel
theorem dL_law_137 : decode cL_law 137 = .ok (.invokestatic 75, 3) := by decide +kernel
theorem dL_law_140 : decode cL_law 140 = .ok (.if_icmp .lt 23, 3) := by decide +kernel
theorem dL_law_143 : decode cL_law 143 = .ok (.iload 7, 2) := by decide +kernel
theorem dL_law_145 : decode cL_law 145 = .ok (.invokestatic 75, 3) := by decide +kernel
theorem dL_law_148 : decode cL_law 148 = .ok (.iload 5, 2) := by decide +kernel
theorem dL_law_150 : decode cL_law 150 = .ok (.invokestatic 75, 3) := by decide +kernel
theorem dL_law_153 : decode cL_law 153 = .ok (.if_icmp .ne 12, 3) := by decide +kernel
theorem dL_law_156 : decode cL_law 156 = .ok (.iload 7, 2) := by decide +kernel
theorem dL_law_158 : decode cL_law 158 = .ok (.iload 5, 2) := by decide +kernel
theorem dL_law_160 : decode cL_law 160 = .ok (.if_icmp .ge 5, 3) := by decide +kernel
theorem dL_law_163 : decode cL_law 163 = .ok (.iconst 0, 1) := by decide +kernel
theorem dL_law_164 : decode cL_law 164 = .ok (.ireturn, 1) := by decide +kernel
theorem dL_law_165 : decode cL_law 165 = .ok (.aload_n 1, 1) := by decide +kernel
theorem dL_law_166 : decode cL_law 166 = .ok (.iload 7, 2) := by decide +kernel
theorem dL_law_168 : decode cL_law 168 = .ok (.invokevirtual 80, 3) := by decide +kernel
theorem dL_law_171 : decode cL_law 171 = .ok (.aload_n 1, 1) := by decide +kernel
theorem dL_law_172 : decode cL_law 172 = .ok (.invokevirtual 83, 3) := by decide +kernel
theorem dL_law_175 : decode cL_law 175 = .ok (.if_icmp .gt 14, 3) := by decide +kernel
theorem dL_law_178 : decode cL_law 178 = .ok (.iload 8, 2) := by decide +kernel
theorem dL_law_180 : decode cL_law 180 = .ok (.aload_n 1, 1) := by decide +kernel
theorem dL_law_181 : decode cL_law 181 = .ok (.iload 7, 2) := by decide +kernel
theorem dL_law_183 : decode cL_law 183 = .ok (.invokevirtual 80, 3) := by decide +kernel
theorem dL_law_186 : decode cL_law 186 = .ok (.if_icmp .ge 5, 3) := by decide +kernel
theorem dL_law_189 : decode cL_law 189 = .ok (.iconst 0, 1) := by decide +kernel
theorem dL_law_190 : decode cL_law 190 = .ok (.ireturn, 1) := by decide +kernel
theorem dL_law_191 : decode cL_law 191 = .ok (.iinc 7 1, 3) := by decide +kernel
theorem dL_law_194 : decode cL_law 194 = .ok (.goto (-109), 3) := by decide +kernel
theorem dL_law_197 : decode cL_law 197 = .ok (.iload 6, 2) := by decide +kernel
theorem dL_law_199 : decode cL_law 199 = .ok (.aload_n 1, 1) := by decide +kernel
theorem dL_law_200 : decode cL_law 200 = .ok (.iconst 0, 1) := by decide +kernel
theorem dL_law_201 : decode cL_law 201 = .ok (.invokevirtual 67, 3) := by decide +kernel
theorem dL_law_204 : decode cL_law 204 = .ok (.if_icmp .le 5, 3) := by decide +kernel
theorem dL_law_207 : decode cL_law 207 = .ok (.iconst 0, 1) := by decide +kernel
theorem dL_law_208 : decode cL_law 208 = .ok (.ireturn, 1) := by decide +kernel
theorem dL_law_209 : decode cL_law 209 = .ok (.aload_n 1, 1) := by decide +kernel
theorem dL_law_210 : decode cL_law 210 = .ok (.invokevirtual 83, 3) := by decide +kernel
theorem dL_law_213 : decode cL_law 213 = .ok (.istore 7, 2) := by decide +kernel
theorem dL_law_215 : decode cL_law 215 = .ok (.iload 7, 2) := by decide +kernel
theorem dL_law_217 : decode cL_law 217 = .ok (.ifCond .ne 5, 3) := by decide +kernel
theorem dL_law_220 : decode cL_law 220 = .ok (.iconst 1, 1) := by decide +kernel
theorem dL_law_221 : decode cL_law 221 = .ok (.ireturn, 1) := by decide +kernel
theorem dL_law_222 : decode cL_law 222 = .ok (.aload_n 1, 1) := by decide +kernel
theorem dL_law_223 : decode cL_law 223 = .ok (.iload 5, 2) := by decide +kernel
theorem dL_law_225 : decode cL_law 225 = .ok (.invokevirtual 80, 3) := by decide +kernel
theorem dL_law_228 : decode cL_law 228 = .ok (.istore 8, 2) := by decide +kernel
theorem dL_law_230 : decode cL_law 230 = .ok (.iload 6, 2) := by decide +kernel
theorem dL_law_232 : decode cL_law 232 = .ok (.iload 8, 2) := by decide +kernel
theorem dL_law_234 : decode cL_law 234 = .ok (.isub, 1) := by decide +kernel
theorem dL_law_235 : decode cL_law 235 = .ok (.istore 9, 2) := by decide +kernel
theorem dL_law_237 : decode cL_law 237 = .ok (.aload_n 1, 1) := by decide +kernel
theorem dL_law_238 : decode cL_law 238 = .ok (.iload 5, 2) := by decide +kernel
theorem dL_law_240 : decode cL_law 240 = .ok (.invokevirtual 86, 3) := by decide +kernel
theorem dL_law_243 : decode cL_law 243 = .ok (.ifCond .ne 47, 3) := by decide +kernel
theorem dL_law_246 : decode cL_law 246 = .ok (.aload_n 1, 1) := by decide +kernel
theorem dL_law_247 : decode cL_law 247 = .ok (.iconst 0, 1) := by decide +kernel
theorem dL_law_248 : decode cL_law 248 = .ok (.iconst 0, 1) := by decide +kernel
theorem dL_law_249 : decode cL_law 249 = .ok (.invokevirtual 89, 3) := by decide +kernel
theorem dL_law_252 : decode cL_law 252 = .ok (.iload 8, 2) := by decide +kernel
theorem dL_law_254 : decode cL_law 254 = .ok (.if_icmp .ne 36, 3) := by decide +kernel
theorem dL_law_257 : decode cL_law 257 = .ok (.aload_n 1, 1) := by decide +kernel
theorem dL_law_258 : decode cL_law 258 = .ok (.iconst 0, 1) := by decide +kernel
theorem dL_law_259 : decode cL_law 259 = .ok (.iconst 1, 1) := by decide +kernel
theorem dL_law_260 : decode cL_law 260 = .ok (.invokevirtual 89, 3) := by decide +kernel
theorem dL_law_263 : decode cL_law 263 = .ok (.iload 9, 2) := by decide +kernel
theorem dL_law_265 : decode cL_law 265 = .ok (.if_icmp .ne 25, 3) := by decide +kernel
theorem dL_law_268 : decode cL_law 268 = .ok (.aload_n 1, 1) := by decide +kernel
theorem dL_law_269 : decode cL_law 269 = .ok (.iconst 0, 1) := by decide +kernel
theorem dL_law_270 : decode cL_law 270 = .ok (.iconst 2, 1) := by decide +kernel
theorem dL_law_271 : decode cL_law 271 = .ok (.invokevirtual 89, 3) := by decide +kernel
theorem dL_law_274 : decode cL_law 274 = .ok (.iload 5, 2) := by decide +kernel
theorem dL_law_276 : decode cL_law 276 = .ok (.if_icmp .ne 14, 3) := by decide +kernel
theorem dL_law_279 : decode cL_law 279 = .ok (.aload_n 1, 1) := by decide +kernel
theorem dL_law_280 : decode cL_law 280 = .ok (.iconst 0, 1) := by decide +kernel
theorem dL_law_281 : decode cL_law 281 = .ok (.iconst 4, 1) := by decide +kernel
theorem dL_law_282 : decode cL_law 282 = .ok (.invokevirtual 89, 3) := by decide +kernel
theorem dL_law_285 : decode cL_law 285 = .ok (.iload 7, 2) := by decide +kernel
theorem dL_law_287 : decode cL_law 287 = .ok (.if_icmp .eq 5, 3) := by decide +kernel
theorem dL_law_290 : decode cL_law 290 = .ok (.iconst 0, 1) := by decide +kernel
theorem dL_law_291 : decode cL_law 291 = .ok (.ireturn, 1) := by decide +kernel
theorem dL_law_292 : decode cL_law 292 = .ok (.iconst 0, 1) := by decide +kernel
theorem dL_law_293 : decode cL_law 293 = .ok (.istore 10, 2) := by decide +kernel
theorem dL_law_295 : decode cL_law 295 = .ok (.aload_n 1, 1) := by decide +kernel
theorem dL_law_296 : decode cL_law 296 = .ok (.iconst 0, 1) := by decide +kernel
theorem dL_law_297 : decode cL_law 297 = .ok (.iconst 3, 1) := by decide +kernel
theorem dL_law_298 : decode cL_law 298 = .ok (.invokevirtual 89, 3) := by decide +kernel
theorem dL_law_301 : decode cL_law 301 = .ok (.istore 11, 2) := by decide +kernel
theorem dL_law_303 : decode cL_law 303 = .ok (.iconst 0, 1) := by decide +kernel
theorem dL_law_304 : decode cL_law 304 = .ok (.istore 12, 2) := by decide +kernel
theorem dL_law_306 : decode cL_law 306 = .ok (.iload 11, 2) := by decide +kernel
theorem dL_law_308 : decode cL_law 308 = .ok (.ifCond .le 151, 3) := by decide +kernel
theorem dL_law_311 : decode cL_law 311 = .ok (.aload_n 0, 1) := by decide +kernel
theorem dL_law_312 : decode cL_law 312 = .ok (.bipush 9, 2) := by decide +kernel
theorem dL_law_314 : decode cL_law 314 = .ok (.iload 12, 2) := by decide +kernel
theorem dL_law_316 : decode cL_law 316 = .ok (.bipush 7, 2) := by decide +kernel
theorem dL_law_318 : decode cL_law 318 = .ok (.irem, 1) := by decide +kernel
theorem dL_law_319 : decode cL_law 319 = .ok (.iadd, 1) := by decide +kernel
theorem dL_law_320 : decode cL_law 320 = .ok (.invokestatic 9, 3) := by decide +kernel
theorem dL_law_323 : decode cL_law 323 = .ok (.iload 12, 2) := by decide +kernel
theorem dL_law_325 : decode cL_law 325 = .ok (.bipush 7, 2) := by decide +kernel
theorem dL_law_327 : decode cL_law 327 = .ok (.idiv, 1) := by decide +kernel
theorem dL_law_328 : decode cL_law 328 = .ok (.iconst 3, 1) := by decide +kernel
theorem dL_law_329 : decode cL_law 329 = .ok (.imul, 1) := by decide +kernel
theorem dL_law_330 : decode cL_law 330 = .ok (.ishr, 1) := by decide +kernel
theorem dL_law_331 : decode cL_law 331 = .ok (.aload 4, 2) := by decide +kernel
theorem dL_law_333 : decode cL_law 333 = .ok (.iconst 0, 1) := by decide +kernel
theorem dL_law_334 : decode cL_law 334 = .ok (.iaload, 1) := by decide +kernel
theorem dL_law_335 : decode cL_law 335 = .ok (.invokestatic 15, 3) := by decide +kernel
theorem dL_law_338 : decode cL_law 338 = .ok (.istore 13, 2) := by decide +kernel
theorem dL_law_340 : decode cL_law 340 = .ok (.aload_n 1, 1) := by decide +kernel
theorem dL_law_341 : decode cL_law 341 = .ok (.iconst 0, 1) := by decide +kernel
theorem dL_law_342 : decode cL_law 342 = .ok (.iload 13, 2) := by decide +kernel
theorem dL_law_344 : decode cL_law 344 = .ok (.invokevirtual 92, 3) := by decide +kernel
theorem dL_law_347 : decode cL_law 347 = .ok (.ifCond .ne 17, 3) := by decide +kernel
theorem dL_law_350 : decode cL_law 350 = .ok (.iload 13, 2) := by decide +kernel
theorem dL_law_352 : decode cL_law 352 = .ok (.iconst 1, 1) := by decide +kernel
theorem dL_law_353 : decode cL_law 353 = .ok (.iadd, 1) := by decide +kernel
theorem dL_law_354 : decode cL_law 354 = .ok (.aload 4, 2) := by decide +kernel
theorem dL_law_356 : decode cL_law 356 = .ok (.iconst 0, 1) := by decide +kernel
theorem dL_law_357 : decode cL_law 357 = .ok (.iaload, 1) := by decide +kernel
theorem dL_law_358 : decode cL_law 358 = .ok (.irem, 1) := by decide +kernel
theorem dL_law_359 : decode cL_law 359 = .ok (.istore 13, 2) := by decide +kernel
theorem dL_law_361 : decode cL_law 361 = .ok (.goto (-21), 3) := by decide +kernel
theorem dL_law_364 : decode cL_law 364 = .ok (.aload_n 1, 1) := by decide +kernel
theorem dL_law_365 : decode cL_law 365 = .ok (.iconst 0, 1) := by decide +kernel
theorem dL_law_366 : decode cL_law 366 = .ok (.iconst 0, 1) := by decide +kernel
theorem dL_law_367 : decode cL_law 367 = .ok (.invokevirtual 89, 3) := by decide +kernel
theorem dL_law_370 : decode cL_law 370 = .ok (.istore 14, 2) := by decide +kernel
theorem dL_law_372 : decode cL_law 372 = .ok (.aload_n 1, 1) := by decide +kernel
theorem dL_law_373 : decode cL_law 373 = .ok (.iconst 0, 1) := by decide +kernel
theorem dL_law_374 : decode cL_law 374 = .ok (.iconst 2, 1) := by decide +kernel
theorem dL_law_375 : decode cL_law 375 = .ok (.invokevirtual 89, 3) := by decide +kernel
theorem dL_law_378 : decode cL_law 378 = .ok (.istore 15, 2) := by decide +kernel
theorem dL_law_380 : decode cL_law 380 = .ok (.aload_n 1, 1) := by decide +kernel
theorem dL_law_381 : decode cL_law 381 = .ok (.iconst 0, 1) := by decide +kernel
theorem dL_law_382 : decode cL_law 382 = .ok (.iload 13, 2) := by decide +kernel
theorem dL_law_384 : decode cL_law 384 = .ok (.iconst 1, 1) := by decide +kernel
theorem dL_law_385 : decode cL_law 385 = .ok (.invokevirtual 95, 3) := by decide +kernel
theorem dL_law_388 : decode cL_law 388 = .ok (.istore 16, 2) := by decide +kernel
theorem dL_law_390 : decode cL_law 390 = .ok (.iload 10, 2) := by decide +kernel
theorem dL_law_392 : decode cL_law 392 = .ok (.iload 16, 2) := by decide +kernel
theorem dL_law_394 : decode cL_law 394 = .ok (.iadd, 1) := by decide +kernel
theorem dL_law_395 : decode cL_law 395 = .ok (.istore 10, 2) := by decide +kernel
theorem dL_law_397 : decode cL_law 397 = .ok (.iinc 11 (-1), 3) := by decide +kernel
theorem dL_law_400 : decode cL_law 400 = .ok (.iload 16, 2) := by decide +kernel
theorem dL_law_402 : decode cL_law 402 = .ok (.ifCond .lt 49, 3) := by decide +kernel
theorem dL_law_405 : decode cL_law 405 = .ok (.iload 16, 2) := by decide +kernel
theorem dL_law_407 : decode cL_law 407 = .ok (.iload 14, 2) := by decide +kernel
theorem dL_law_409 : decode cL_law 409 = .ok (.if_icmp .gt 42, 3) := by decide +kernel
theorem dL_law_412 : decode cL_law 412 = .ok (.aload_n 1, 1) := by decide +kernel
theorem dL_law_413 : decode cL_law 413 = .ok (.iconst 0, 1) := by decide +kernel
theorem dL_law_414 : decode cL_law 414 = .ok (.iconst 0, 1) := by decide +kernel
theorem dL_law_415 : decode cL_law 415 = .ok (.invokevirtual 89, 3) := by decide +kernel
theorem dL_law_418 : decode cL_law 418 = .ok (.iload 14, 2) := by decide +kernel
theorem dL_law_420 : decode cL_law 420 = .ok (.iload 16, 2) := by decide +kernel
theorem dL_law_422 : decode cL_law 422 = .ok (.isub, 1) := by decide +kernel
theorem dL_law_423 : decode cL_law 423 = .ok (.if_icmp .ne 28, 3) := by decide +kernel
theorem dL_law_426 : decode cL_law 426 = .ok (.aload_n 1, 1) := by decide +kernel
theorem dL_law_427 : decode cL_law 427 = .ok (.iconst 0, 1) := by decide +kernel
theorem dL_law_428 : decode cL_law 428 = .ok (.iconst 3, 1) := by decide +kernel
theorem dL_law_429 : decode cL_law 429 = .ok (.invokevirtual 89, 3) := by decide +kernel
theorem dL_law_432 : decode cL_law 432 = .ok (.iload 11, 2) := by decide +kernel
theorem dL_law_434 : decode cL_law 434 = .ok (.if_icmp .ne 17, 3) := by decide +kernel
theorem dL_law_437 : decode cL_law 437 = .ok (.aload_n 1, 1) := by decide +kernel
theorem dL_law_438 : decode cL_law 438 = .ok (.iconst 0, 1) := by decide +kernel
theorem dL_law_439 : decode cL_law 439 = .ok (.iconst 2, 1) := by decide +kernel
theorem dL_law_440 : decode cL_law 440 = .ok (.invokevirtual 89, 3) := by decide +kernel
theorem dL_law_443 : decode cL_law 443 = .ok (.iload 15, 2) := by decide +kernel
theorem dL_law_445 : decode cL_law 445 = .ok (.iconst (-1), 1) := by decide +kernel
theorem dL_law_446 : decode cL_law 446 = .ok (.ixor, 1) := by decide +kernel
theorem dL_law_447 : decode cL_law 447 = .ok (.iand, 1) := by decide +kernel
theorem dL_law_448 : decode cL_law 448 = .ok (.ifCond .eq 5, 3) := by decide +kernel
theorem dL_law_451 : decode cL_law 451 = .ok (.iconst 0, 1) := by decide +kernel
theorem dL_law_452 : decode cL_law 452 = .ok (.ireturn, 1) := by decide +kernel
theorem dL_law_453 : decode cL_law 453 = .ok (.iinc 12 1, 3) := by decide +kernel
theorem dL_law_456 : decode cL_law 456 = .ok (.goto (-150), 3) := by decide +kernel
theorem dL_law_459 : decode cL_law 459 = .ok (.iload 10, 2) := by decide +kernel
theorem dL_law_461 : decode cL_law 461 = .ok (.iload 8, 2) := by decide +kernel
theorem dL_law_463 : decode cL_law 463 = .ok (.if_icmp .ne 45, 3) := by decide +kernel
theorem dL_law_466 : decode cL_law 466 = .ok (.aload_n 1, 1) := by decide +kernel
theorem dL_law_467 : decode cL_law 467 = .ok (.iconst 0, 1) := by decide +kernel
theorem dL_law_468 : decode cL_law 468 = .ok (.iconst 0, 1) := by decide +kernel
theorem dL_law_469 : decode cL_law 469 = .ok (.invokevirtual 89, 3) := by decide +kernel
theorem dL_law_472 : decode cL_law 472 = .ok (.ifCond .ne 36, 3) := by decide +kernel
theorem dL_law_475 : decode cL_law 475 = .ok (.aload_n 1, 1) := by decide +kernel
theorem dL_law_476 : decode cL_law 476 = .ok (.iconst 0, 1) := by decide +kernel
theorem dL_law_477 : decode cL_law 477 = .ok (.iconst 1, 1) := by decide +kernel
theorem dL_law_478 : decode cL_law 478 = .ok (.invokevirtual 89, 3) := by decide +kernel
theorem dL_law_481 : decode cL_law 481 = .ok (.iload 9, 2) := by decide +kernel
theorem dL_law_483 : decode cL_law 483 = .ok (.if_icmp .ne 25, 3) := by decide +kernel
theorem dL_law_486 : decode cL_law 486 = .ok (.aload_n 1, 1) := by decide +kernel
theorem dL_law_487 : decode cL_law 487 = .ok (.iconst 0, 1) := by decide +kernel
theorem dL_law_488 : decode cL_law 488 = .ok (.iconst 2, 1) := by decide +kernel
theorem dL_law_489 : decode cL_law 489 = .ok (.invokevirtual 89, 3) := by decide +kernel
theorem dL_law_492 : decode cL_law 492 = .ok (.ifCond .ne 16, 3) := by decide +kernel
theorem dL_law_495 : decode cL_law 495 = .ok (.aload_n 1, 1) := by decide +kernel
theorem dL_law_496 : decode cL_law 496 = .ok (.iconst 0, 1) := by decide +kernel
theorem dL_law_497 : decode cL_law 497 = .ok (.iconst 4, 1) := by decide +kernel
theorem dL_law_498 : decode cL_law 498 = .ok (.invokevirtual 89, 3) := by decide +kernel
theorem dL_law_501 : decode cL_law 501 = .ok (.ifCond .ne 7, 3) := by decide +kernel
theorem dL_law_504 : decode cL_law 504 = .ok (.iconst 1, 1) := by decide +kernel
theorem dL_law_505 : decode cL_law 505 = .ok (.goto 4, 3) := by decide +kernel
theorem dL_law_508 : decode cL_law 508 = .ok (.iconst 0, 1) := by decide +kernel
theorem dL_law_509 : decode cL_law 509 = .ok (.ireturn, 1) := by decide +kernel
