def RX0 : String := "IceHarbour$Boat"
def TX0 : u_T := fun k => match k with
  | 0 => ("IceHarbour$Boat", "owner", "I", false)
  | 1 => ("IceHarbour$Boat", "hull", "I", false)
  | 2 => ("IceHarbour$Boat", "room", "I", false)
  | 3 => ("IceHarbour$Boat", "place", "I", false)
  | 4 => ("IceHarbour$Boat", "harbour", "I", false)
  | 5 => ("IceHarbour$Boat", "onLeg", "I", false)
  | 6 => ("IceHarbour$Boat", "goal", "I", false)
  | 7 => ("IceHarbour$Boat", "daysToGo", "I", false)
  | _ => ("IceHarbour$Boat", "cargo", "[I", true)
def tyX0 : Nat → FieldType := fun k => match k with
  | 0 => .int
  | 1 => .int
  | 2 => .int
  | 3 => .int
  | 4 => .int
  | 5 => .int
  | 6 => .int
  | 7 => .int
  | _ => .array .int
abbrev wsX00 : List Cond := u_ws RX0 TX0 9
theorem nmX0 : ∀ a, a < 9 → ∀ b, b < 9 → a ≠ b → (TX0 a).2.1 ≠ (TX0 b).2.1 := by decide +kernel
theorem tyX0_ok : ∀ k, k < 9 → parseFieldDescriptor (TX0 k).2.2.1 = some (tyX0 k) := by decide +kernel
abbrev cX0_init : ByteArray := prog_2_method_1_code
def yX0_init : MethodName := ⟨RX0, "<init>", "()V"⟩
abbrev cX0_launch : ByteArray := prog_2_method_2_code
def yX0_launch : MethodName := ⟨RX0, "launch", "(III)V"⟩
abbrev cX0_copyFrom : ByteArray := prog_2_method_3_code
def yX0_copyFrom : MethodName := ⟨RX0, "copyFrom", "(LIceHarbour$Boat;)V"⟩
abbrev cX0_isInHarbour : ByteArray := prog_2_method_4_code
def yX0_isInHarbour : MethodName := ⟨RX0, "isInHarbour", "()Z"⟩
abbrev cX0_isAtGoal : ByteArray := prog_2_method_5_code
def yX0_isAtGoal : MethodName := ⟨RX0, "isAtGoal", "()Z"⟩
abbrev cX0_allCargo : ByteArray := prog_2_method_6_code
def yX0_allCargo : MethodName := ⟨RX0, "allCargo", "()I"⟩
abbrev cX0_loseHull : ByteArray := prog_2_method_7_code
def yX0_loseHull : MethodName := ⟨RX0, "loseHull", "()V"⟩
def RX1 : String := "IceHarbour$Debt"
def TX1 : u_T := fun k => match k with
  | 0 => ("IceHarbour$Debt", "lender", "I", false)
  | 1 => ("IceHarbour$Debt", "debtor", "I", false)
  | 2 => ("IceHarbour$Debt", "harbour", "I", false)
  | 3 => ("IceHarbour$Debt", "good", "I", false)
  | 4 => ("IceHarbour$Debt", "many", "I", false)
  | 5 => ("IceHarbour$Debt", "dueDay", "I", false)
  | _ => ("IceHarbour$Debt", "state", "I", false)
def tyX1 : Nat → FieldType := fun k => match k with
  | 0 => .int
  | 1 => .int
  | 2 => .int
  | 3 => .int
  | 4 => .int
  | 5 => .int
  | _ => .int
abbrev wsX10 : List Cond := u_ws RX1 TX1 7
theorem nmX1 : ∀ a, a < 7 → ∀ b, b < 7 → a ≠ b → (TX1 a).2.1 ≠ (TX1 b).2.1 := by decide +kernel
theorem tyX1_ok : ∀ k, k < 7 → parseFieldDescriptor (TX1 k).2.2.1 = some (tyX1 k) := by decide +kernel
abbrev cX1_init : ByteArray := prog_3_method_1_code
def yX1_init : MethodName := ⟨RX1, "<init>", "()V"⟩
abbrev cX1_open : ByteArray := prog_3_method_2_code
def yX1_open : MethodName := ⟨RX1, "open", "(IIIIII)V"⟩
abbrev cX1_copyFrom : ByteArray := prog_3_method_3_code
def yX1_copyFrom : MethodName := ⟨RX1, "copyFrom", "(LIceHarbour$Debt;)V"⟩
def RX2 : String := "IceHarbour$Merchant"
def TX2 : u_T := fun k => match k with
  | 0 => ("IceHarbour$Merchant", "coins", "I", false)
  | _ => ("IceHarbour$Merchant", "stocks", "[I", true)
def tyX2 : Nat → FieldType := fun k => match k with
  | 0 => .int
  | _ => .array .int
abbrev wsX20 : List Cond := u_ws RX2 TX2 2
theorem nmX2 : ∀ a, a < 2 → ∀ b, b < 2 → a ≠ b → (TX2 a).2.1 ≠ (TX2 b).2.1 := by decide +kernel
theorem tyX2_ok : ∀ k, k < 2 → parseFieldDescriptor (TX2 k).2.2.1 = some (tyX2 k) := by decide +kernel
abbrev cX2_init : ByteArray := prog_4_method_1_code
def yX2_init : MethodName := ⟨RX2, "<init>", "()V"⟩
abbrev cX2_copyFrom : ByteArray := prog_4_method_2_code
def yX2_copyFrom : MethodName := ⟨RX2, "copyFrom", "(LIceHarbour$Merchant;)V"⟩
def RX3 : String := "IceHarbour$River"
def TX3 : u_T := fun k => match k with
  | 0 => ("IceHarbour$River", "day", "I", false)
  | 1 => ("IceHarbour$River", "harbours", "I", false)
  | 2 => ("IceHarbour$River", "warm", "[I", true)
  | 3 => ("IceHarbour$River", "legDays", "[I", true)
  | 4 => ("IceHarbour$River", "ice", "[I", true)
  | 5 => ("IceHarbour$River", "berths", "[I", true)
  | _ => ("IceHarbour$River", "prices", "[I", true)
def tyX3 : Nat → FieldType := fun k => match k with
  | 0 => .int
  | 1 => .int
  | 2 => .array .int
  | 3 => .array .int
  | 4 => .array .int
  | 5 => .array .int
  | _ => .array .int
abbrev wsX30 : List Cond := u_ws RX3 TX3 7
theorem nmX3 : ∀ a, a < 7 → ∀ b, b < 7 → a ≠ b → (TX3 a).2.1 ≠ (TX3 b).2.1 := by decide +kernel
theorem tyX3_ok : ∀ k, k < 7 → parseFieldDescriptor (TX3 k).2.2.1 = some (tyX3 k) := by decide +kernel
abbrev cX3_init : ByteArray := prog_5_method_1_code
def yX3_init : MethodName := ⟨RX3, "<init>", "()V"⟩
abbrev cX3_copyFrom : ByteArray := prog_5_method_2_code
def yX3_copyFrom : MethodName := ⟨RX3, "copyFrom", "(LIceHarbour$River;)V"⟩
abbrev cX3_grow : ByteArray := prog_5_method_3_code
def yX3_grow : MethodName := ⟨RX3, "grow", "(II)I"⟩
abbrev cX3_legs : ByteArray := prog_5_method_4_code
def yX3_legs : MethodName := ⟨RX3, "legs", "()I"⟩
abbrev cX3_isOpen : ByteArray := prog_5_method_5_code
def yX3_isOpen : MethodName := ⟨RX3, "isOpen", "(I)Z"⟩
abbrev cX3_openLegs : ByteArray := prog_5_method_6_code
def yX3_openLegs : MethodName := ⟨RX3, "openLegs", "()I"⟩
abbrev cX3_iceAtHarbour : ByteArray := prog_5_method_7_code
def yX3_iceAtHarbour : MethodName := ⟨RX3, "iceAtHarbour", "(I)I"⟩
abbrev cX3_warmOn : ByteArray := prog_5_method_8_code
def yX3_warmOn : MethodName := ⟨RX3, "warmOn", "(I)I"⟩
abbrev cX3_freezeOrThaw : ByteArray := prog_5_method_9_code
def yX3_freezeOrThaw : MethodName := ⟨RX3, "freezeOrThaw", "()V"⟩
abbrev cX3_daysOver : ByteArray := prog_5_method_10_code
def yX3_daysOver : MethodName := ⟨RX3, "daysOver", "(IZ)I"⟩
abbrev cX3_wayDays : ByteArray := prog_5_method_11_code
def yX3_wayDays : MethodName := ⟨RX3, "wayDays", "(II)I"⟩
def RX4 : String := "IceHarbour$World"
def TX4 : u_T := fun k => match k with
  | 0 => ("IceHarbour$World", "river", "LIceHarbour$River;", true)
  | 1 => ("IceHarbour$World", "merchantCount", "I", false)
  | 2 => ("IceHarbour$World", "boatCount", "I", false)
  | 3 => ("IceHarbour$World", "debtCount", "I", false)
  | 4 => ("IceHarbour$World", "merchants", "[LIceHarbour$Merchant;", true)
  | 5 => ("IceHarbour$World", "boats", "[LIceHarbour$Boat;", true)
  | _ => ("IceHarbour$World", "debts", "[LIceHarbour$Debt;", true)
def tyX4 : Nat → FieldType := fun k => match k with
  | 0 => .object "IceHarbour$River"
  | 1 => .int
  | 2 => .int
  | 3 => .int
  | 4 => .array (.object "IceHarbour$Merchant")
  | 5 => .array (.object "IceHarbour$Boat")
  | _ => .array (.object "IceHarbour$Debt")
abbrev wsX40 : List Cond := u_ws RX4 TX4 7
theorem nmX4 : ∀ a, a < 7 → ∀ b, b < 7 → a ≠ b → (TX4 a).2.1 ≠ (TX4 b).2.1 := by decide +kernel
theorem tyX4_ok : ∀ k, k < 7 → parseFieldDescriptor (TX4 k).2.2.1 = some (tyX4 k) := by decide +kernel
abbrev cX4_init : ByteArray := prog_6_method_1_code
def yX4_init : MethodName := ⟨RX4, "<init>", "()V"⟩
abbrev cX4_copyFrom : ByteArray := prog_6_method_2_code
def yX4_copyFrom : MethodName := ⟨RX4, "copyFrom", "(LIceHarbour$World;)V"⟩
abbrev cX4_boatsIn : ByteArray := prog_6_method_3_code
def yX4_boatsIn : MethodName := ⟨RX4, "boatsIn", "(I)I"⟩
abbrev cX4_boatsLying : ByteArray := prog_6_method_4_code
def yX4_boatsLying : MethodName := ⟨RX4, "boatsLying", "(II)I"⟩
abbrev cX4_boatsOnLeg : ByteArray := prog_6_method_5_code
def yX4_boatsOnLeg : MethodName := ⟨RX4, "boatsOnLeg", "(I)I"⟩
abbrev cX4_boatsAfloatOf : ByteArray := prog_6_method_6_code
def yX4_boatsAfloatOf : MethodName := ⟨RX4, "boatsAfloatOf", "(I)I"⟩
abbrev cX4_cargoOf : ByteArray := prog_6_method_7_code
def yX4_cargoOf : MethodName := ⟨RX4, "cargoOf", "(I)I"⟩
abbrev cX4_openDebts : ByteArray := prog_6_method_8_code
def yX4_openDebts : MethodName := ⟨RX4, "openDebts", "()I"⟩
abbrev cX4_debtsOf : ByteArray := prog_6_method_9_code
def yX4_debtsOf : MethodName := ⟨RX4, "debtsOf", "(II)I"⟩
abbrev cX4_allCoins : ByteArray := prog_6_method_10_code
def yX4_allCoins : MethodName := ⟨RX4, "allCoins", "()I"⟩
abbrev cX4_freeBerths : ByteArray := prog_6_method_11_code
def yX4_freeBerths : MethodName := ⟨RX4, "freeBerths", "(I)I"⟩
abbrev cX4_hand : ByteArray := prog_6_method_13_code
def yX4_hand : MethodName := ⟨RX4, "hand", "(IIII)V"⟩
abbrev cX4_passDay : ByteArray := prog_6_method_14_code
def yX4_passDay : MethodName := ⟨RX4, "passDay", "()V"⟩
abbrev cX4_payForBerth : ByteArray := prog_6_method_15_code
def yX4_payForBerth : MethodName := ⟨RX4, "payForBerth", "(LIceHarbour$Boat;)V"⟩
abbrev cX4_goOn : ByteArray := prog_6_method_16_code
def yX4_goOn : MethodName := ⟨RX4, "goOn", "(LIceHarbour$Boat;)V"⟩
abbrev cX4_setOut : ByteArray := prog_6_method_17_code
def yX4_setOut : MethodName := ⟨RX4, "setOut", "(LIceHarbour$Boat;)V"⟩
abbrev cX4_bearIce : ByteArray := prog_6_method_18_code
def yX4_bearIce : MethodName := ⟨RX4, "bearIce", "(LIceHarbour$Boat;)V"⟩
abbrev cX4_settle : ByteArray := prog_6_method_19_code
def yX4_settle : MethodName := ⟨RX4, "settle", "(LIceHarbour$Debt;)V"⟩
def RX5 : String := "IceHarbour"
def TX5 : u_T := fun k => match k with
  | 0 => ("IceHarbour", "world", "LIceHarbour$World;", true)
  | 1 => ("IceHarbour", "river", "LIceHarbour$River;", true)
  | 2 => ("IceHarbour", "trial", "LIceHarbour$World;", true)
  | _ => ("IceHarbour", "iceAhead", "[[I", true)
def tyX5 : Nat → FieldType := fun k => match k with
  | 0 => .object "IceHarbour$World"
  | 1 => .object "IceHarbour$River"
  | 2 => .object "IceHarbour$World"
  | _ => .array (.array .int)
abbrev wsX50 : List Cond := u_ws RX5 TX5 4
theorem nmX5 : ∀ a, a < 4 → ∀ b, b < 4 → a ≠ b → (TX5 a).2.1 ≠ (TX5 b).2.1 := by decide +kernel
theorem tyX5_ok : ∀ k, k < 4 → parseFieldDescriptor (TX5 k).2.2.1 = some (tyX5 k) := by decide +kernel
abbrev cX5_init : ByteArray := prog_1_method_1_code
def yX5_init : MethodName := ⟨RX5, "<init>", "()V"⟩
abbrev cX5_setWarm : ByteArray := prog_1_method_2_code
def yX5_setWarm : MethodName := ⟨RX5, "setWarm", "(II)I"⟩
abbrev cX5_addHarbour : ByteArray := prog_1_method_3_code
def yX5_addHarbour : MethodName := ⟨RX5, "addHarbour", "(II)I"⟩
abbrev cX5_setPrice : ByteArray := prog_1_method_4_code
def yX5_setPrice : MethodName := ⟨RX5, "setPrice", "(III)I"⟩
abbrev cX5_harbour : ByteArray := prog_1_method_5_code
def yX5_harbour : MethodName := ⟨RX5, "harbour", "(II)I"⟩
abbrev cX5_leg : ByteArray := prog_1_method_6_code
def yX5_leg : MethodName := ⟨RX5, "leg", "(II)I"⟩
abbrev cX5_addMerchant : ByteArray := prog_1_method_7_code
def yX5_addMerchant : MethodName := ⟨RX5, "addMerchant", "(I)I"⟩
abbrev cX5_bring : ByteArray := prog_1_method_8_code
def yX5_bring : MethodName := ⟨RX5, "bring", "(IIII)I"⟩
abbrev cX5_sell : ByteArray := prog_1_method_9_code
def yX5_sell : MethodName := ⟨RX5, "sell", "(IIII)I"⟩
abbrev cX5_stock : ByteArray := prog_1_method_10_code
def yX5_stock : MethodName := ⟨RX5, "stock", "(III)I"⟩
abbrev cX5_merchant : ByteArray := prog_1_method_11_code
def yX5_merchant : MethodName := ⟨RX5, "merchant", "(II)I"⟩
abbrev cX5_build : ByteArray := prog_1_method_12_code
def yX5_build : MethodName := ⟨RX5, "build", "(III)I"⟩
abbrev cX5_load : ByteArray := prog_1_method_13_code
def yX5_load : MethodName := ⟨RX5, "load", "(III)I"⟩
abbrev cX5_send : ByteArray := prog_1_method_14_code
def yX5_send : MethodName := ⟨RX5, "send", "(II)I"⟩
abbrev cX5_berth : ByteArray := prog_1_method_15_code
def yX5_berth : MethodName := ⟨RX5, "berth", "(IZ)I"⟩
abbrev cX5_mend : ByteArray := prog_1_method_16_code
def yX5_mend : MethodName := ⟨RX5, "mend", "(I)I"⟩
abbrev cX5_boat : ByteArray := prog_1_method_17_code
def yX5_boat : MethodName := ⟨RX5, "boat", "(II)I"⟩
abbrev cX5_lend : ByteArray := prog_1_method_18_code
def yX5_lend : MethodName := ⟨RX5, "lend", "(IIIIII)I"⟩
abbrev cX5_repay : ByteArray := prog_1_method_19_code
def yX5_repay : MethodName := ⟨RX5, "repay", "(II)I"⟩
abbrev cX5_debt : ByteArray := prog_1_method_20_code
def yX5_debt : MethodName := ⟨RX5, "debt", "(II)I"⟩
abbrev cX5_pass : ByteArray := prog_1_method_21_code
def yX5_pass : MethodName := ⟨RX5, "pass", "(I)I"⟩
abbrev cX5_count : ByteArray := prog_1_method_22_code
def yX5_count : MethodName := ⟨RX5, "count", "(I)I"⟩
abbrev cX5_opens : ByteArray := prog_1_method_23_code
def yX5_opens : MethodName := ⟨RX5, "opens", "(I)I"⟩
abbrev cX5_arrives : ByteArray := prog_1_method_24_code
def yX5_arrives : MethodName := ⟨RX5, "arrives", "(I)I"⟩
abbrev cX5_mean : ByteArray := prog_1_method_27_code
def yX5_mean : MethodName := ⟨RX5, "mean", "()D"⟩
abbrev cX5_needIndex : ByteArray := prog_1_method_29_code
def yX5_needIndex : MethodName := ⟨RX5, "needIndex", "(II)V"⟩
abbrev cX5_needNumber : ByteArray := prog_1_method_30_code
def yX5_needNumber : MethodName := ⟨RX5, "needNumber", "(III)V"⟩
abbrev cX5_needAtLeast : ByteArray := prog_1_method_31_code
def yX5_needAtLeast : MethodName := ⟨RX5, "needAtLeast", "(II)V"⟩
abbrev cX5_needRoomForOneMore : ByteArray := prog_1_method_32_code
def yX5_needRoomForOneMore : MethodName := ⟨RX5, "needRoomForOneMore", "(II)V"⟩
abbrev cX5_needEnough : ByteArray := prog_1_method_33_code
def yX5_needEnough : MethodName := ⟨RX5, "needEnough", "(II)V"⟩
abbrev cX5_needInHarbour : ByteArray := prog_1_method_34_code
def yX5_needInHarbour : MethodName := ⟨RX5, "needInHarbour", "(LIceHarbour$Boat;)V"⟩
abbrev cX5_needHarbour : ByteArray := prog_1_method_35_code
def yX5_needHarbour : MethodName := ⟨RX5, "needHarbour", "(I)V"⟩
abbrev cX5_needLeg : ByteArray := prog_1_method_36_code
def yX5_needLeg : MethodName := ⟨RX5, "needLeg", "(I)V"⟩
abbrev cX5_needMerchant : ByteArray := prog_1_method_37_code
def yX5_needMerchant : MethodName := ⟨RX5, "needMerchant", "(I)V"⟩
abbrev cX5_needBoat : ByteArray := prog_1_method_38_code
def yX5_needBoat : MethodName := ⟨RX5, "needBoat", "(I)V"⟩
abbrev cX5_countFact : ByteArray := prog_1_method_39_code
def yX5_countFact : MethodName := ⟨RX5, "countFact", "(I)I"⟩
abbrev cX5_harbourFact : ByteArray := prog_1_method_40_code
def yX5_harbourFact : MethodName := ⟨RX5, "harbourFact", "(II)I"⟩
abbrev cX5_legFact : ByteArray := prog_1_method_41_code
def yX5_legFact : MethodName := ⟨RX5, "legFact", "(II)I"⟩
abbrev cX5_merchantFact : ByteArray := prog_1_method_42_code
def yX5_merchantFact : MethodName := ⟨RX5, "merchantFact", "(II)I"⟩
abbrev cX5_boatFact : ByteArray := prog_1_method_43_code
def yX5_boatFact : MethodName := ⟨RX5, "boatFact", "(LIceHarbour$Boat;I)I"⟩
abbrev cX5_debtFact : ByteArray := prog_1_method_44_code
def yX5_debtFact : MethodName := ⟨RX5, "debtFact", "(LIceHarbour$Debt;I)I"⟩
abbrev cX5_cellOf : ByteArray := prog_1_method_54_code
def yX5_cellOf : MethodName := ⟨RX5, "cellOf", "(II)I"⟩
abbrev cX5_sum : ByteArray := prog_1_method_55_code
def yX5_sum : MethodName := ⟨RX5, "sum", "([I)I"⟩
abbrev cX5_iceBehind : ByteArray := prog_1_method_56_code
def yX5_iceBehind : MethodName := ⟨RX5, "iceBehind", "(II)I"⟩
abbrev cX5_copyRow : ByteArray := prog_1_method_57_code
def yX5_copyRow : MethodName := ⟨RX5, "copyRow", "([I[I)V"⟩
def RX6 : String := "IceHarbourLaw$Boat"
def TX6 : u_T := fun k => match k with
  | 0 => ("IceHarbourLaw$Boat", "of", "I", false)
  | 1 => ("IceHarbourLaw$Boat", "hull", "I", false)
  | 2 => ("IceHarbourLaw$Boat", "room", "I", false)
  | 3 => ("IceHarbourLaw$Boat", "state", "I", false)
  | 4 => ("IceHarbourLaw$Boat", "at", "I", false)
  | 5 => ("IceHarbourLaw$Boat", "goal", "I", false)
  | 6 => ("IceHarbourLaw$Boat", "left", "I", false)
  | 7 => ("IceHarbourLaw$Boat", "leg", "I", false)
  | _ => ("IceHarbourLaw$Boat", "goods", "[I", false)
def tyX6 : Nat → FieldType := fun k => match k with
  | 0 => .int
  | 1 => .int
  | 2 => .int
  | 3 => .int
  | 4 => .int
  | 5 => .int
  | 6 => .int
  | 7 => .int
  | _ => .array .int
abbrev wsX60 : List Cond := u_ws RX6 TX6 9
theorem nmX6 : ∀ a, a < 9 → ∀ b, b < 9 → a ≠ b → (TX6 a).2.1 ≠ (TX6 b).2.1 := by decide +kernel
theorem tyX6_ok : ∀ k, k < 9 → parseFieldDescriptor (TX6 k).2.2.1 = some (tyX6 k) := by decide +kernel
abbrev cX6_init : ByteArray := prog_8_method_1_code
def yX6_init : MethodName := ⟨RX6, "<init>", "()V"⟩
abbrev cX6_all : ByteArray := prog_8_method_3_code
def yX6_all : MethodName := ⟨RX6, "all", "()I"⟩
def RX7 : String := "IceHarbourLaw$Sim"
def TX7 : u_T := fun k => match k with
  | 0 => ("IceHarbourLaw$Sim", "warm", "[I", false)
  | 1 => ("IceHarbourLaw$Sim", "harbours", "[[I", false)
  | 2 => ("IceHarbourLaw$Sim", "days", "[I", false)
  | 3 => ("IceHarbourLaw$Sim", "ice", "[I", false)
  | 4 => ("IceHarbourLaw$Sim", "coins", "[I", false)
  | 5 => ("IceHarbourLaw$Sim", "stock", "[[[I", false)
  | 6 => ("IceHarbourLaw$Sim", "boats", "[LIceHarbourLaw$Boat;", false)
  | 7 => ("IceHarbourLaw$Sim", "debts", "[[I", false)
  | _ => ("IceHarbourLaw$Sim", "day", "I", false)
def tyX7 : Nat → FieldType := fun k => match k with
  | 0 => .array .int
  | 1 => .array (.array .int)
  | 2 => .array .int
  | 3 => .array .int
  | 4 => .array .int
  | 5 => .array (.array (.array .int))
  | 6 => .array (.object "IceHarbourLaw$Boat")
  | 7 => .array (.array .int)
  | _ => .int
abbrev wsX70 : List Cond := u_ws RX7 TX7 9
theorem nmX7 : ∀ a, a < 9 → ∀ b, b < 9 → a ≠ b → (TX7 a).2.1 ≠ (TX7 b).2.1 := by decide +kernel
theorem tyX7_ok : ∀ k, k < 9 → parseFieldDescriptor (TX7 k).2.2.1 = some (tyX7 k) := by decide +kernel
abbrev cX7_init : ByteArray := prog_9_method_1_code
def yX7_init : MethodName := ⟨RX7, "<init>", "()V"⟩
abbrev cX7_more : ByteArray := prog_9_method_3_code
def yX7_more : MethodName := ⟨RX7, "more", "([[I[I)[[I"⟩
abbrev cX7_build : ByteArray := prog_9_method_4_code
def yX7_build : MethodName := ⟨RX7, "build", "(III)V"⟩
abbrev cX7_around : ByteArray := prog_9_method_5_code
def yX7_around : MethodName := ⟨RX7, "around", "(I)I"⟩
abbrev cX7_in : ByteArray := prog_9_method_6_code
def yX7_in : MethodName := ⟨RX7, "in", "(II)I"⟩
abbrev cX7_way : ByteArray := prog_9_method_7_code
def yX7_way : MethodName := ⟨RX7, "way", "(II)I"⟩
abbrev cX7_freeze : ByteArray := prog_9_method_8_code
def yX7_freeze : MethodName := ⟨RX7, "freeze", "()V"⟩
abbrev cX7_sail : ByteArray := prog_9_method_9_code
def yX7_sail : MethodName := ⟨RX7, "sail", "(LIceHarbourLaw$Boat;)V"⟩
abbrev cX7_pays : ByteArray := prog_9_method_10_code
def yX7_pays : MethodName := ⟨RX7, "pays", "([II)Z"⟩
abbrev cX7_pass : ByteArray := prog_9_method_11_code
def yX7_pass : MethodName := ⟨RX7, "pass", "()I"⟩
abbrev cX7_sunk : ByteArray := prog_9_method_12_code
def yX7_sunk : MethodName := ⟨RX7, "sunk", "()I"⟩
abbrev cX7_isSame : ByteArray := prog_9_method_14_code
def yX7_isSame : MethodName := ⟨RX7, "isSame", "(LIceHarbour;)Z"⟩
def RX8 : String := "IceHarbourModel"
def TX8 : u_T := fun k => match k with
  | _ => ("", "", "", false)
def tyX8 : Nat → FieldType := fun k => match k with
  | _ => .int
abbrev wsX80 : List Cond := u_ws RX8 TX8 0
theorem nmX8 : ∀ a, a < 0 → ∀ b, b < 0 → a ≠ b → (TX8 a).2.1 ≠ (TX8 b).2.1 := by decide +kernel
theorem tyX8_ok : ∀ k, k < 0 → parseFieldDescriptor (TX8 k).2.2.1 = some (tyX8 k) := by decide +kernel
def RJx145de : String := "java/io/Serializable"
def TJx145de : u_T := fun k => match k with
  | _ => ("", "", "", false)
def tyJx145de : Nat → FieldType := fun k => match k with
  | _ => .int
theorem nmJx145de : ∀ a, a < 0 → ∀ b, b < 0 → a ≠ b → (TJx145de a).2.1 ≠ (TJx145de b).2.1 := by decide +kernel
theorem tyJx145de_ok : ∀ k, k < 0 → parseFieldDescriptor (TJx145de k).2.2.1 = some (tyJx145de k) := by decide +kernel
def RJ9 : String := "java/lang/Math"
def TJ9 : u_T := fun k => match k with
  | _ => ("", "", "", false)
def tyJ9 : Nat → FieldType := fun k => match k with
  | _ => .int
theorem nmJ9 : ∀ a, a < 0 → ∀ b, b < 0 → a ≠ b → (TJ9 a).2.1 ≠ (TJ9 b).2.1 := by decide +kernel
theorem tyJ9_ok : ∀ k, k < 0 → parseFieldDescriptor (TJ9 k).2.2.1 = some (tyJ9 k) := by decide +kernel
abbrev cJ9_floorMod_7cf53 : ByteArray := prog_15_method_50_code
def yJ9_floorMod_7cf53 : MethodName := ⟨RJ9, "floorMod", "(II)I"⟩
abbrev cJ9_abs_0f7a4 : ByteArray := prog_15_method_59_code
def yJ9_abs_0f7a4 : MethodName := ⟨RJ9, "abs", "(I)I"⟩
abbrev cJ9_max_7cf53 : ByteArray := prog_15_method_65_code
def yJ9_max_7cf53 : MethodName := ⟨RJ9, "max", "(II)I"⟩
abbrev cJ9_min_7cf53 : ByteArray := prog_15_method_69_code
def yJ9_min_7cf53 : MethodName := ⟨RJ9, "min", "(II)I"⟩
def RJ0 : String := "java/lang/String"
def TJ0 : u_T := fun k => match k with
  | _ => ("", "", "", false)
def tyJ0 : Nat → FieldType := fun k => match k with
  | _ => .int
theorem nmJ0 : ∀ a, a < 0 → ∀ b, b < 0 → a ≠ b → (TJ0 a).2.1 ≠ (TJ0 b).2.1 := by decide +kernel
theorem tyJ0_ok : ∀ k, k < 0 → parseFieldDescriptor (TJ0 k).2.2.1 = some (tyJ0 k) := by decide +kernel
def RJ10 : String := "java/lang/System"
def TJ10 : u_T := fun k => match k with
  | _ => ("", "", "", false)
def tyJ10 : Nat → FieldType := fun k => match k with
  | _ => .int
theorem nmJ10 : ∀ a, a < 0 → ∀ b, b < 0 → a ≠ b → (TJ10 a).2.1 ≠ (TJ10 b).2.1 := by decide +kernel
theorem tyJ10_ok : ∀ k, k < 0 → parseFieldDescriptor (TJ10 k).2.2.1 = some (tyJ10 k) := by decide +kernel
def RJ7 : String := "java/util/Arrays"
def TJ7 : u_T := fun k => match k with
  | _ => ("", "", "", false)
def tyJ7 : Nat → FieldType := fun k => match k with
  | _ => .int
theorem nmJ7 : ∀ a, a < 0 → ∀ b, b < 0 → a ≠ b → (TJ7 a).2.1 ≠ (TJ7 b).2.1 := by decide +kernel
theorem tyJ7_ok : ∀ k, k < 0 → parseFieldDescriptor (TJ7 k).2.2.1 = some (tyJ7 k) := by decide +kernel
abbrev cJ7_fill_53178 : ByteArray := prog_20_method_103_code
def yJ7_fill_53178 : MethodName := ⟨RJ7, "fill", "([II)V"⟩
def RL : String := "IceHarbourLaw"
abbrev cL_below : ByteArray := method_2_code
def yL_below : MethodName := ⟨RL, "below", "(II)I"⟩
abbrev cL_cell : ByteArray := method_3_code
def yL_cell : MethodName := ⟨RL, "cell", "([II)I"⟩
abbrev cL_build : ByteArray := method_4_code
def yL_build : MethodName := ⟨RL, "build", "(LIceHarbour;[I)LIceHarbourLaw$Sim;"⟩
abbrev cL_act : ByteArray := method_5_code
def yL_act : MethodName := ⟨RL, "act", "(LIceHarbour;LIceHarbourLaw$Sim;I)Z"⟩
abbrev cL_law : ByteArray := code
def yL_law : MethodName := ⟨RL, "law", "([I)Z"⟩
abbrev vwCl : List vw_C := [(RX0, TX0, 9), (RX1, TX1, 7), (RX2, TX2, 2), (RX3, TX3, 7), (RX4, TX4, 7), (RX5, TX5, 4), (RX6, TX6, 9), (RX7, TX7, 9)]
/-- the words of the tables that travel -/
def jj_W : List Cond := lw_tbl.filter goodWord
theorem jj_wsgood (w : Cond) (h : w ∈ jj_W) : (w.onTables && w.keeps) = true ∨ ∃ ty, w = .arrayClass ty := good_of_word (List.mem_filter.mp h).2
theorem jj_Wof {w : Cond} (i : Nat) (h : lw_tbl[i]? = some w) (g : goodWord w = true) : w ∈ jj_W := List.mem_filter.mpr ⟨List.mem_of_getElem? h, g⟩
theorem jj_Wtbl {w : Cond} (h : w ∈ jj_W) : w ∈ lw_tbl := (List.mem_filter.mp h).1
