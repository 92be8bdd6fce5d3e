/-! ===== BEGIN words of one list among another's, by their places ===== -/
theorem goodIn_r {big : List Cond} (ws : List Cond) (ps : List Nat) (hp : ws = ps.filterMap (fun i => big[i]?)) (h : ws.all goodWord = true) : GoodIn big ws := by
  intro w hw
  have h1 := List.all_eq_true.mp h w hw
  rw [hp] at hw
  obtain ⟨i, -, hi⟩ := List.mem_filterMap.mp hw
  have hm : w ∈ big := by first | exact List.mem_of_getElem? hi | exact List.getElem?_mem hi
  exact ⟨hm, good_of_word h1⟩
theorem goodIn_app {big a b : List Cond} (ha : GoodIn big a) (hb : GoodIn big b) : GoodIn big (a ++ b) := fun w h => (List.mem_append.mp h).elim (ha w) (hb w)
theorem goodIn_ca {big a b : List Cond} {c : Cond} (ha : GoodIn big (c :: a)) (hb : GoodIn big b) : GoodIn big (c :: (a ++ b)) := fun w h => (List.mem_cons.mp h).elim (fun e => ha w (List.mem_cons.mpr (Or.inl e))) (fun h => (List.mem_append.mp h).elim (fun h => ha w (List.mem_cons.mpr (Or.inr h))) (hb w))
theorem goodIn_sub {big ws : List Cond} (hm : ∀ w ∈ ws, w ∈ big) (h : ws.all goodWord = true) : GoodIn big ws := fun w hw => ⟨hm w hw, good_of_word (List.all_eq_true.mp h w hw)⟩
/-! ===== END ===== -/


/-! ===== BEGIN printed: names, fields, word lists, decode rows ===== -/
def RX0 : String := "GreenHours$Plan"
def TX0 : u_T := fun k => match k with
  | 0 => ("GreenHours$Plan", "places", "[I", true)
  | 1 => ("GreenHours$Plan", "hours", "[I", true)
  | 2 => ("GreenHours$Plan", "costs", "[I", true)
  | 3 => ("GreenHours$Plan", "size", "I", false)
  | _ => ("GreenHours$Plan", "total", "I", false)
def tyX0 : Nat → FieldType := fun k => match k with
  | 0 => .array .int
  | 1 => .array .int
  | 2 => .array .int
  | 3 => .int
  | _ => .int
abbrev wsX00 : List Cond := u_ws RX0 TX0 5
theorem nmX0 : ∀ a, a < 5 → ∀ b, b < 5 → a ≠ b → (TX0 a).2.1 ≠ (TX0 b).2.1 := by decide +kernel
theorem tyX0_ok : ∀ k, k < 5 → parseFieldDescriptor (TX0 k).2.2.1 = some (tyX0 k) := by decide +kernel
abbrev cX0_init : ByteArray := prog_2_method_1_code
def yX0_init : MethodName := ⟨RX0, "<init>", "()V"⟩
abbrev cX0_clear : ByteArray := prog_2_method_2_code
def yX0_clear : MethodName := ⟨RX0, "clear", "()V"⟩
abbrev cX0_put : ByteArray := prog_2_method_3_code
def yX0_put : MethodName := ⟨RX0, "put", "(IIII)V"⟩
abbrev cX0_has : ByteArray := prog_2_method_4_code
def yX0_has : MethodName := ⟨RX0, "has", "(I)Z"⟩
abbrev cX0_tell : ByteArray := prog_2_method_5_code
def yX0_tell : MethodName := ⟨RX0, "tell", "(II)I"⟩
def RX1 : String := "GreenHours$Prices"
def TX1 : u_T := fun k => match k with
  | 0 => ("GreenHours$Prices", "table", "[[I", true)
  | 1 => ("GreenHours$Prices", "known", "I", false)
  | 2 => ("GreenHours$Prices", "first", "I", false)
  | 3 => ("GreenHours$Prices", "last", "I", false)
  | 4 => ("GreenHours$Prices", "place", "I", false)
  | 5 => ("GreenHours$Prices", "hour", "I", false)
  | _ => ("GreenHours$Prices", "cost", "I", false)
def tyX1 : Nat → FieldType := fun k => match k with
  | 0 => .array (.array .int)
  | 1 => .int
  | 2 => .int
  | 3 => .int
  | 4 => .int
  | 5 => .int
  | _ => .int
abbrev wsX10 : List Cond := u_ws RX1 TX1 7
theorem nmX1 : ∀ a, a < 7 → ∀ b, b < 7 → a ≠ b → (TX1 a).2.1 ≠ (TX1 b).2.1 := by decide +kernel
theorem tyX1_ok : ∀ k, k < 7 → parseFieldDescriptor (TX1 k).2.2.1 = some (tyX1 k) := by decide +kernel
abbrev cX1_init : ByteArray := prog_3_method_1_code
def yX1_init : MethodName := ⟨RX1, "<init>", "()V"⟩
abbrev cX1_fill : ByteArray := prog_3_method_2_code
def yX1_fill : MethodName := ⟨RX1, "fill", "(LGreenHours$Sites;LGreenHours$Work;IIZ)V"⟩
abbrev cX1_fillRow : ByteArray := prog_3_method_3_code
def yX1_fillRow : MethodName := ⟨RX1, "fillRow", "(LGreenHours$Sites;LGreenHours$Work;IIZ)V"⟩
abbrev cX1_pickCheapest : ByteArray := prog_3_method_4_code
def yX1_pickCheapest : MethodName := ⟨RX1, "pickCheapest", "()V"⟩
abbrev cX1_pickSoonest : ByteArray := prog_3_method_5_code
def yX1_pickSoonest : MethodName := ⟨RX1, "pickSoonest", "()V"⟩
abbrev cX1_pickAt : ByteArray := prog_3_method_6_code
def yX1_pickAt : MethodName := ⟨RX1, "pickAt", "(I)V"⟩
def RX2 : String := "GreenHours$Sites"
def TX2 : u_T := fun k => match k with
  | 0 => ("GreenHours$Sites", "known", "I", false)
  | 1 => ("GreenHours$Sites", "fares", "[[I", true)
  | 2 => ("GreenHours$Sites", "greens", "[[I", true)
  | _ => ("GreenHours$Sites", "rooms", "[[I", true)
def tyX2 : Nat → FieldType := fun k => match k with
  | 0 => .int
  | 1 => .array (.array .int)
  | 2 => .array (.array .int)
  | _ => .array (.array .int)
abbrev wsX20 : List Cond := u_ws RX2 TX2 4
theorem nmX2 : ∀ a, a < 4 → ∀ b, b < 4 → a ≠ b → (TX2 a).2.1 ≠ (TX2 b).2.1 := by decide +kernel
theorem tyX2_ok : ∀ k, k < 4 → parseFieldDescriptor (TX2 k).2.2.1 = some (tyX2 k) := by decide +kernel
abbrev cX2_init : ByteArray := prog_4_method_1_code
def yX2_init : MethodName := ⟨RX2, "<init>", "()V"⟩
abbrev cX2_has : ByteArray := prog_4_method_2_code
def yX2_has : MethodName := ⟨RX2, "has", "(I)Z"⟩
abbrev cX2_add : ByteArray := prog_4_method_3_code
def yX2_add : MethodName := ⟨RX2, "add", "(I)I"⟩
abbrev cX2_carriage : ByteArray := prog_4_method_4_code
def yX2_carriage : MethodName := ⟨RX2, "carriage", "(LGreenHours$Work;I)I"⟩
abbrev cX2_costOf : ByteArray := prog_4_method_5_code
def yX2_costOf : MethodName := ⟨RX2, "costOf", "(LGreenHours$Work;II)I"⟩
abbrev cX2_fits : ByteArray := prog_4_method_6_code
def yX2_fits : MethodName := ⟨RX2, "fits", "(III)Z"⟩
abbrev cX2_take : ByteArray := prog_4_method_7_code
def yX2_take : MethodName := ⟨RX2, "take", "(III)V"⟩
abbrev cX2_giveBack : ByteArray := prog_4_method_8_code
def yX2_giveBack : MethodName := ⟨RX2, "giveBack", "(III)V"⟩
def RX3 : String := "GreenHours$Trio"
def TX3 : u_T := fun k => match k with
  | 0 => ("GreenHours$Trio", "places", "[[I", true)
  | 1 => ("GreenHours$Trio", "hours", "[[I", true)
  | 2 => ("GreenHours$Trio", "costs", "[[I", true)
  | 3 => ("GreenHours$Trio", "kept", "[I", true)
  | 4 => ("GreenHours$Trio", "lengths", "[I", true)
  | _ => ("GreenHours$Trio", "size", "I", false)
def tyX3 : Nat → FieldType := fun k => match k with
  | 0 => .array (.array .int)
  | 1 => .array (.array .int)
  | 2 => .array (.array .int)
  | 3 => .array .int
  | 4 => .array .int
  | _ => .int
abbrev wsX30 : List Cond := u_ws RX3 TX3 6
theorem nmX3 : ∀ a, a < 6 → ∀ b, b < 6 → a ≠ b → (TX3 a).2.1 ≠ (TX3 b).2.1 := by decide +kernel
theorem tyX3_ok : ∀ k, k < 6 → parseFieldDescriptor (TX3 k).2.2.1 = some (tyX3 k) := by decide +kernel
abbrev cX3_init : ByteArray := prog_5_method_1_code
def yX3_init : MethodName := ⟨RX3, "<init>", "()V"⟩
abbrev cX3_clear : ByteArray := prog_5_method_2_code
def yX3_clear : MethodName := ⟨RX3, "clear", "()V"⟩
abbrev cX3_add : ByteArray := prog_5_method_3_code
def yX3_add : MethodName := ⟨RX3, "add", "(LGreenHours$Work;LGreenHours$Prices;)V"⟩
abbrev cX3_keep : ByteArray := prog_5_method_4_code
def yX3_keep : MethodName := ⟨RX3, "keep", "(IIII)V"⟩
abbrev cX3_least : ByteArray := prog_5_method_5_code
def yX3_least : MethodName := ⟨RX3, "least", "(LGreenHours$Sites;)I"⟩
abbrev cX3_search : ByteArray := prog_5_method_6_code
def yX3_search : MethodName := ⟨RX3, "search", "(LGreenHours$Trio;LGreenHours$Sites;III)I"⟩
abbrev cX3_cheapestFrom : ByteArray := prog_5_method_7_code
def yX3_cheapestFrom : MethodName := ⟨RX3, "cheapestFrom", "(I)I"⟩
def RX4 : String := "GreenHours$Work"
def TX4 : u_T := fun k => match k with
  | 0 => ("GreenHours$Work", "owner", "I", true)
  | 1 => ("GreenHours$Work", "home", "I", true)
  | 2 => ("GreenHours$Work", "length", "I", true)
  | 3 => ("GreenHours$Work", "from", "I", true)
  | 4 => ("GreenHours$Work", "due", "I", true)
  | 5 => ("GreenHours$Work", "data", "I", true)
  | 6 => ("GreenHours$Work", "state", "I", false)
  | 7 => ("GreenHours$Work", "place", "I", false)
  | 8 => ("GreenHours$Work", "hour", "I", false)
  | _ => ("GreenHours$Work", "paid", "I", false)
def tyX4 : Nat → FieldType := fun k => match k with
  | 0 => .int
  | 1 => .int
  | 2 => .int
  | 3 => .int
  | 4 => .int
  | 5 => .int
  | 6 => .int
  | 7 => .int
  | 8 => .int
  | _ => .int
abbrev wsX40 : List Cond := u_ws RX4 TX4 10
theorem nmX4 : ∀ a, a < 10 → ∀ b, b < 10 → a ≠ b → (TX4 a).2.1 ≠ (TX4 b).2.1 := by decide +kernel
theorem tyX4_ok : ∀ k, k < 10 → parseFieldDescriptor (TX4 k).2.2.1 = some (tyX4 k) := by decide +kernel
abbrev cX4_init : ByteArray := prog_6_method_1_code
def yX4_init : MethodName := ⟨RX4, "<init>", "(IIIIII)V"⟩
abbrev cX4_tell : ByteArray := prog_6_method_2_code
def yX4_tell : MethodName := ⟨RX4, "tell", "(I)I"⟩
def RX5 : String := "GreenHours"
def TX5 : u_T := fun k => match k with
  | 0 => ("GreenHours", "sites", "LGreenHours$Sites;", true)
  | 1 => ("GreenHours", "works", "Ljava/util/ArrayList;", true)
  | 2 => ("GreenHours", "delays", "[I", true)
  | 3 => ("GreenHours", "shown", "LGreenHours$Plan;", true)
  | 4 => ("GreenHours", "hourly", "LGreenHours$Plan;", true)
  | 5 => ("GreenHours", "prices", "LGreenHours$Prices;", true)
  | 6 => ("GreenHours", "trio", "LGreenHours$Trio;", true)
  | 7 => ("GreenHours", "order", "[I", true)
  | 8 => ("GreenHours", "patienceNow", "I", false)
  | 9 => ("GreenHours", "now", "I", false)
  | _ => ("GreenHours", "troubleNow", "I", false)
def tyX5 : Nat → FieldType := fun k => match k with
  | 0 => .object "GreenHours$Sites"
  | 1 => .object "java/util/ArrayList"
  | 2 => .array .int
  | 3 => .object "GreenHours$Plan"
  | 4 => .object "GreenHours$Plan"
  | 5 => .object "GreenHours$Prices"
  | 6 => .object "GreenHours$Trio"
  | 7 => .array .int
  | 8 => .int
  | 9 => .int
  | _ => .int
abbrev wsX50 : List Cond := u_ws RX5 TX5 11
theorem nmX5 : ∀ a, a < 11 → ∀ b, b < 11 → a ≠ b → (TX5 a).2.1 ≠ (TX5 b).2.1 := by decide +kernel
theorem tyX5_ok : ∀ k, k < 11 → parseFieldDescriptor (TX5 k).2.2.1 = some (tyX5 k) := by decide +kernel
abbrev cX5_init : ByteArray := prog_1_method_1_code
def yX5_init : MethodName := ⟨RX5, "<init>", "()V"⟩
abbrev cX5_place : ByteArray := prog_1_method_2_code
def yX5_place : MethodName := ⟨RX5, "place", "(I)I"⟩
abbrev cX5_troubleOfPlace : ByteArray := prog_1_method_3_code
def yX5_troubleOfPlace : MethodName := ⟨RX5, "troubleOfPlace", "(I)I"⟩
abbrev cX5_fare : ByteArray := prog_1_method_4_code
def yX5_fare : MethodName := ⟨RX5, "fare", "(III)Z"⟩
abbrev cX5_troubleOfFare : ByteArray := prog_1_method_5_code
def yX5_troubleOfFare : MethodName := ⟨RX5, "troubleOfFare", "(III)I"⟩
abbrev cX5_green : ByteArray := prog_1_method_6_code
def yX5_green : MethodName := ⟨RX5, "green", "(IIII)Z"⟩
abbrev cX5_troubleOfGreen : ByteArray := prog_1_method_7_code
def yX5_troubleOfGreen : MethodName := ⟨RX5, "troubleOfGreen", "(IIII)I"⟩
abbrev cX5_told : ByteArray := prog_1_method_8_code
def yX5_told : MethodName := ⟨RX5, "told", "(II)I"⟩
abbrev cX5_patience : ByteArray := prog_1_method_9_code
def yX5_patience : MethodName := ⟨RX5, "patience", "(I)Z"⟩
abbrev cX5_job : ByteArray := prog_1_method_10_code
def yX5_job : MethodName := ⟨RX5, "job", "(IIIIII)I"⟩
abbrev cX5_troubleOfJob : ByteArray := prog_1_method_11_code
def yX5_troubleOfJob : MethodName := ⟨RX5, "troubleOfJob", "(IIIIII)I"⟩
abbrev cX5_drop : ByteArray := prog_1_method_12_code
def yX5_drop : MethodName := ⟨RX5, "drop", "(I)Z"⟩
abbrev cX5_troubleOfDrop : ByteArray := prog_1_method_13_code
def yX5_troubleOfDrop : MethodName := ⟨RX5, "troubleOfDrop", "(I)I"⟩
abbrev cX5_about : ByteArray := prog_1_method_14_code
def yX5_about : MethodName := ⟨RX5, "about", "(II)I"⟩
abbrev cX5_lay : ByteArray := prog_1_method_15_code
def yX5_lay : MethodName := ⟨RX5, "lay", "()I"⟩
abbrev cX5_laid : ByteArray := prog_1_method_16_code
def yX5_laid : MethodName := ⟨RX5, "laid", "(II)I"⟩
abbrev cX5_cost : ByteArray := prog_1_method_17_code
def yX5_cost : MethodName := ⟨RX5, "cost", "()I"⟩
abbrev cX5_best : ByteArray := prog_1_method_18_code
def yX5_best : MethodName := ⟨RX5, "best", "()I"⟩
abbrev cX5_free : ByteArray := prog_1_method_19_code
def yX5_free : MethodName := ⟨RX5, "free", "(II)I"⟩
abbrev cX5_pass : ByteArray := prog_1_method_20_code
def yX5_pass : MethodName := ⟨RX5, "pass", "(I)I"⟩
abbrev cX5_troubleOfPass : ByteArray := prog_1_method_21_code
def yX5_troubleOfPass : MethodName := ⟨RX5, "troubleOfPass", "(I)I"⟩
abbrev cX5_delay : ByteArray := prog_1_method_22_code
def yX5_delay : MethodName := ⟨RX5, "delay", "(I)I"⟩
abbrev cX5_behind : ByteArray := prog_1_method_23_code
def yX5_behind : MethodName := ⟨RX5, "behind", "(I)I"⟩
abbrev cX5_paid : ByteArray := prog_1_method_24_code
def yX5_paid : MethodName := ⟨RX5, "paid", "()I"⟩
abbrev cX5_atOnce : ByteArray := prog_1_method_25_code
def yX5_atOnce : MethodName := ⟨RX5, "atOnce", "()I"⟩
abbrev cX5_saved : ByteArray := prog_1_method_26_code
def yX5_saved : MethodName := ⟨RX5, "saved", "()I"⟩
abbrev cX5_regret : ByteArray := prog_1_method_27_code
def yX5_regret : MethodName := ⟨RX5, "regret", "(I)I"⟩
abbrev cX5_worst : ByteArray := prog_1_method_28_code
def yX5_worst : MethodName := ⟨RX5, "worst", "()I"⟩
abbrev cX5_would : ByteArray := prog_1_method_29_code
def yX5_would : MethodName := ⟨RX5, "would", "(III)I"⟩
abbrev cX5_count : ByteArray := prog_1_method_30_code
def yX5_count : MethodName := ⟨RX5, "count", "(I)I"⟩
abbrev cX5_trouble : ByteArray := prog_1_method_31_code
def yX5_trouble : MethodName := ⟨RX5, "trouble", "()I"⟩
abbrev cX5_within : ByteArray := prog_1_method_32_code
def yX5_within : MethodName := ⟨RX5, "within", "(III)Z"⟩
abbrev cX5_isJob : ByteArray := prog_1_method_33_code
def yX5_isJob : MethodName := ⟨RX5, "isJob", "(I)Z"⟩
abbrev cX5_isBehind : ByteArray := prog_1_method_34_code
def yX5_isBehind : MethodName := ⟨RX5, "isBehind", "(I)Z"⟩
abbrev cX5_countOf : ByteArray := prog_1_method_35_code
def yX5_countOf : MethodName := ⟨RX5, "countOf", "(I)I"⟩
abbrev cX5_paidOfDone : ByteArray := prog_1_method_36_code
def yX5_paidOfDone : MethodName := ⟨RX5, "paidOfDone", "()I"⟩
abbrev cX5_regretOf : ByteArray := prog_1_method_37_code
def yX5_regretOf : MethodName := ⟨RX5, "regretOf", "(LGreenHours$Work;)I"⟩
abbrev cX5_makePlan : ByteArray := prog_1_method_38_code
def yX5_makePlan : MethodName := ⟨RX5, "makePlan", "(LGreenHours$Plan;)V"⟩
abbrev cX5_layOne : ByteArray := prog_1_method_39_code
def yX5_layOne : MethodName := ⟨RX5, "layOne", "(LGreenHours$Plan;I)V"⟩
abbrev cX5_orderWaiting : ByteArray := prog_1_method_40_code
def yX5_orderWaiting : MethodName := ⟨RX5, "orderWaiting", "()I"⟩
abbrev cX5_rankOf : ByteArray := prog_1_method_41_code
def yX5_rankOf : MethodName := ⟨RX5, "rankOf", "(I)I"⟩
abbrev cX5_leastTogether : ByteArray := prog_1_method_42_code
def yX5_leastTogether : MethodName := ⟨RX5, "leastTogether", "()I"⟩
abbrev cX5_passHour : ByteArray := prog_1_method_43_code
def yX5_passHour : MethodName := ⟨RX5, "passHour", "()I"⟩
abbrev cX5_beginLaid : ByteArray := prog_1_method_44_code
def yX5_beginLaid : MethodName := ⟨RX5, "beginLaid", "()V"⟩
abbrev cX5_loseLate : ByteArray := prog_1_method_45_code
def yX5_loseLate : MethodName := ⟨RX5, "loseLate", "()V"⟩
abbrev cX5_doHour : ByteArray := prog_1_method_46_code
def yX5_doHour : MethodName := ⟨RX5, "doHour", "(LGreenHours$Work;)I"⟩
def RX6 : String := "GreenHoursModel"
def TX6 : u_T := fun k => match k with
  | 0 => ("GreenHoursModel", "thrown", "I", false)
  | 1 => ("GreenHoursModel", "trouble", "I", false)
  | 2 => ("GreenHoursModel", "places", "I", false)
  | 3 => ("GreenHoursModel", "jobs", "I", false)
  | 4 => ("GreenHoursModel", "now", "I", false)
  | 5 => ("GreenHoursModel", "patience", "I", false)
  | 6 => ("GreenHoursModel", "room", "[I", true)
  | 7 => ("GreenHoursModel", "fare", "[I", true)
  | 8 => ("GreenHoursModel", "green", "[I", true)
  | 9 => ("GreenHoursModel", "owner", "[I", true)
  | 10 => ("GreenHoursModel", "home", "[I", true)
  | 11 => ("GreenHoursModel", "length", "[I", true)
  | 12 => ("GreenHoursModel", "from", "[I", true)
  | 13 => ("GreenHoursModel", "due", "[I", true)
  | 14 => ("GreenHoursModel", "data", "[I", true)
  | 15 => ("GreenHoursModel", "state", "[I", true)
  | 16 => ("GreenHoursModel", "at", "[I", true)
  | 17 => ("GreenHoursModel", "hour", "[I", true)
  | 18 => ("GreenHoursModel", "paid", "[I", true)
  | 19 => ("GreenHoursModel", "used", "[I", true)
  | 20 => ("GreenHoursModel", "layPlace", "[I", true)
  | 21 => ("GreenHoursModel", "layHour", "[I", true)
  | 22 => ("GreenHoursModel", "layCost", "[I", true)
  | 23 => ("GreenHoursModel", "order", "[I", true)
  | 24 => ("GreenHoursModel", "laidPlace", "[I", true)
  | 25 => ("GreenHoursModel", "laidHour", "[I", true)
  | 26 => ("GreenHoursModel", "laidCost", "[I", true)
  | 27 => ("GreenHoursModel", "isBehind", "[Z", true)
  | 28 => ("GreenHoursModel", "ordered", "I", false)
  | 29 => ("GreenHoursModel", "laidJobs", "I", false)
  | 30 => ("GreenHoursModel", "few", "[I", true)
  | 31 => ("GreenHoursModel", "options", "[I", true)
  | 32 => ("GreenHoursModel", "choice", "[I", true)
  | 33 => ("GreenHoursModel", "least", "[I", true)
  | _ => ("GreenHoursModel", "bestSum", "I", false)
def tyX6 : Nat → FieldType := fun k => match k with
  | 0 => .int
  | 1 => .int
  | 2 => .int
  | 3 => .int
  | 4 => .int
  | 5 => .int
  | 6 => .array .int
  | 7 => .array .int
  | 8 => .array .int
  | 9 => .array .int
  | 10 => .array .int
  | 11 => .array .int
  | 12 => .array .int
  | 13 => .array .int
  | 14 => .array .int
  | 15 => .array .int
  | 16 => .array .int
  | 17 => .array .int
  | 18 => .array .int
  | 19 => .array .int
  | 20 => .array .int
  | 21 => .array .int
  | 22 => .array .int
  | 23 => .array .int
  | 24 => .array .int
  | 25 => .array .int
  | 26 => .array .int
  | 27 => .array .boolean
  | 28 => .int
  | 29 => .int
  | 30 => .array .int
  | 31 => .array .int
  | 32 => .array .int
  | 33 => .array .int
  | _ => .int
abbrev wsX60 : List Cond := u_ws RX6 TX6 35
theorem nmX6 : ∀ a, a < 35 → ∀ b, b < 35 → a ≠ b → (TX6 a).2.1 ≠ (TX6 b).2.1 := by decide +kernel
theorem tyX6_ok : ∀ k, k < 35 → parseFieldDescriptor (TX6 k).2.2.1 = some (tyX6 k) := by decide +kernel
abbrev cX6_refused : ByteArray := prog_8_method_2_code
def yX6_refused : MethodName := ⟨RX6, "refused", "(I)I"⟩
abbrev cX6_denied : ByteArray := prog_8_method_3_code
def yX6_denied : MethodName := ⟨RX6, "denied", "(I)Z"⟩
abbrev cX6_done : ByteArray := prog_8_method_4_code
def yX6_done : MethodName := ⟨RX6, "done", "(I)I"⟩
abbrev cX6_granted : ByteArray := prog_8_method_5_code
def yX6_granted : MethodName := ⟨RX6, "granted", "()Z"⟩
abbrev cX6_in : ByteArray := prog_8_method_6_code
def yX6_in : MethodName := ⟨RX6, "in", "(III)Z"⟩
abbrev cX6_init : ByteArray := prog_8_method_7_code
def yX6_init : MethodName := ⟨RX6, "<init>", "()V"⟩
abbrev cX6_isPlace : ByteArray := prog_8_method_8_code
def yX6_isPlace : MethodName := ⟨RX6, "isPlace", "(I)Z"⟩
abbrev cX6_isJob : ByteArray := prog_8_method_9_code
def yX6_isJob : MethodName := ⟨RX6, "isJob", "(I)Z"⟩
abbrev cX6_place : ByteArray := prog_8_method_10_code
def yX6_place : MethodName := ⟨RX6, "place", "(I)I"⟩
abbrev cX6_fare : ByteArray := prog_8_method_11_code
def yX6_fare : MethodName := ⟨RX6, "fare", "(III)Z"⟩
abbrev cX6_green : ByteArray := prog_8_method_12_code
def yX6_green : MethodName := ⟨RX6, "green", "(IIII)Z"⟩
abbrev cX6_told : ByteArray := prog_8_method_13_code
def yX6_told : MethodName := ⟨RX6, "told", "(II)I"⟩
abbrev cX6_patience : ByteArray := prog_8_method_14_code
def yX6_patience : MethodName := ⟨RX6, "patience", "(I)Z"⟩
abbrev cX6_job : ByteArray := prog_8_method_15_code
def yX6_job : MethodName := ⟨RX6, "job", "(IIIIII)I"⟩
abbrev cX6_drop : ByteArray := prog_8_method_16_code
def yX6_drop : MethodName := ⟨RX6, "drop", "(I)Z"⟩
abbrev cX6_about : ByteArray := prog_8_method_17_code
def yX6_about : MethodName := ⟨RX6, "about", "(II)I"⟩
abbrev cX6_uses : ByteArray := prog_8_method_18_code
def yX6_uses : MethodName := ⟨RX6, "uses", "()V"⟩
abbrev cX6_puts : ByteArray := prog_8_method_19_code
def yX6_puts : MethodName := ⟨RX6, "puts", "(IIII)V"⟩
abbrev cX6_hasRoom : ByteArray := prog_8_method_20_code
def yX6_hasRoom : MethodName := ⟨RX6, "hasRoom", "(III)Z"⟩
abbrev cX6_costOf : ByteArray := prog_8_method_21_code
def yX6_costOf : MethodName := ⟨RX6, "costOf", "(III)I"⟩
abbrev cX6_delayOf : ByteArray := prog_8_method_22_code
def yX6_delayOf : MethodName := ⟨RX6, "delayOf", "(I)I"⟩
abbrev cX6_isAhead : ByteArray := prog_8_method_23_code
def yX6_isAhead : MethodName := ⟨RX6, "isAhead", "(II)Z"⟩
abbrev cX6_lays : ByteArray := prog_8_method_24_code
def yX6_lays : MethodName := ⟨RX6, "lays", "()V"⟩
abbrev cX6_layOne : ByteArray := prog_8_method_25_code
def yX6_layOne : MethodName := ⟨RX6, "layOne", "(I)V"⟩
abbrev cX6_lay : ByteArray := prog_8_method_26_code
def yX6_lay : MethodName := ⟨RX6, "lay", "()I"⟩
abbrev cX6_laid : ByteArray := prog_8_method_27_code
def yX6_laid : MethodName := ⟨RX6, "laid", "(II)I"⟩
abbrev cX6_cost : ByteArray := prog_8_method_28_code
def yX6_cost : MethodName := ⟨RX6, "cost", "()I"⟩
abbrev cX6_lists : ByteArray := prog_8_method_29_code
def yX6_lists : MethodName := ⟨RX6, "lists", "(II)V"⟩
abbrev cX6_tries : ByteArray := prog_8_method_30_code
def yX6_tries : MethodName := ⟨RX6, "tries", "(III)V"⟩
abbrev cX6_best : ByteArray := prog_8_method_31_code
def yX6_best : MethodName := ⟨RX6, "best", "()I"⟩
abbrev cX6_free : ByteArray := prog_8_method_32_code
def yX6_free : MethodName := ⟨RX6, "free", "(II)I"⟩
abbrev cX6_anHour : ByteArray := prog_8_method_33_code
def yX6_anHour : MethodName := ⟨RX6, "anHour", "()I"⟩
abbrev cX6_pass : ByteArray := prog_8_method_34_code
def yX6_pass : MethodName := ⟨RX6, "pass", "(I)I"⟩
abbrev cX6_delay : ByteArray := prog_8_method_35_code
def yX6_delay : MethodName := ⟨RX6, "delay", "(I)I"⟩
abbrev cX6_behind : ByteArray := prog_8_method_36_code
def yX6_behind : MethodName := ⟨RX6, "behind", "(I)I"⟩
abbrev cX6_homeCost : ByteArray := prog_8_method_37_code
def yX6_homeCost : MethodName := ⟨RX6, "homeCost", "()I"⟩
abbrev cX6_paid : ByteArray := prog_8_method_38_code
def yX6_paid : MethodName := ⟨RX6, "paid", "()I"⟩
abbrev cX6_atOnce : ByteArray := prog_8_method_39_code
def yX6_atOnce : MethodName := ⟨RX6, "atOnce", "()I"⟩
abbrev cX6_saved : ByteArray := prog_8_method_40_code
def yX6_saved : MethodName := ⟨RX6, "saved", "()I"⟩
abbrev cX6_regretOf : ByteArray := prog_8_method_41_code
def yX6_regretOf : MethodName := ⟨RX6, "regretOf", "(I)I"⟩
abbrev cX6_regret : ByteArray := prog_8_method_42_code
def yX6_regret : MethodName := ⟨RX6, "regret", "(I)I"⟩
abbrev cX6_worst : ByteArray := prog_8_method_43_code
def yX6_worst : MethodName := ⟨RX6, "worst", "()I"⟩
abbrev cX6_would : ByteArray := prog_8_method_44_code
def yX6_would : MethodName := ⟨RX6, "would", "(III)I"⟩
abbrev cX6_many : ByteArray := prog_8_method_45_code
def yX6_many : MethodName := ⟨RX6, "many", "(I)I"⟩
abbrev cX6_count : ByteArray := prog_8_method_46_code
def yX6_count : MethodName := ⟨RX6, "count", "(I)I"⟩
abbrev cX6_trouble : ByteArray := prog_8_method_47_code
def yX6_trouble : MethodName := ⟨RX6, "trouble", "()I"⟩
def RJx145de : String := "java/io/Serializable"
def TJx145de : u_T := fun k => match k with
  | _ => ("", "", "", false)
def tyJx145de : Nat → FieldType := fun k => match k with
  | _ => .int
abbrev wsJx145de0 : List Cond := u_ws RJx145de TJx145de 0
theorem nmJx145de : ∀ a, a < 0 → ∀ b, b < 0 → a ≠ b → (TJx145de a).2.1 ≠ (TJx145de b).2.1 := by decide +kernel
theorem tyJx145de_ok : ∀ k, k < 0 → parseFieldDescriptor (TJx145de k).2.2.1 = some (tyJx145de k) := by decide +kernel
def RJx8e188 : String := "java/lang/Cloneable"
def TJx8e188 : u_T := fun k => match k with
  | _ => ("", "", "", false)
def tyJx8e188 : Nat → FieldType := fun k => match k with
  | _ => .int
abbrev wsJx8e1880 : List Cond := u_ws RJx8e188 TJx8e188 0
theorem nmJx8e188 : ∀ a, a < 0 → ∀ b, b < 0 → a ≠ b → (TJx8e188 a).2.1 ≠ (TJx8e188 b).2.1 := by decide +kernel
theorem tyJx8e188_ok : ∀ k, k < 0 → parseFieldDescriptor (TJx8e188 k).2.2.1 = some (tyJx8e188 k) := by decide +kernel
def RJxab1ab : String := "java/lang/Iterable"
def TJxab1ab : u_T := fun k => match k with
  | _ => ("", "", "", false)
def tyJxab1ab : Nat → FieldType := fun k => match k with
  | _ => .int
abbrev wsJxab1ab0 : List Cond := u_ws RJxab1ab TJxab1ab 0
theorem nmJxab1ab : ∀ a, a < 0 → ∀ b, b < 0 → a ≠ b → (TJxab1ab a).2.1 ≠ (TJxab1ab b).2.1 := by decide +kernel
theorem tyJxab1ab_ok : ∀ k, k < 0 → parseFieldDescriptor (TJxab1ab k).2.2.1 = some (tyJxab1ab k) := by decide +kernel
def RJ9 : String := "java/lang/Math"
def TJ9 : u_T := fun k => match k with
  | _ => ("", "", "", false)
def tyJ9 : Nat → FieldType := fun k => match k with
  | _ => .int
abbrev wsJ90 : List Cond := u_ws RJ9 TJ9 0
theorem nmJ9 : ∀ a, a < 0 → ∀ b, b < 0 → a ≠ b → (TJ9 a).2.1 ≠ (TJ9 b).2.1 := by decide +kernel
theorem tyJ9_ok : ∀ k, k < 0 → parseFieldDescriptor (TJ9 k).2.2.1 = some (tyJ9 k) := by decide +kernel
abbrev cJ9_max_7cf53 : ByteArray := prog_12_method_65_code
def yJ9_max_7cf53 : MethodName := ⟨RJ9, "max", "(II)I"⟩
abbrev cJ9_min_7cf53 : ByteArray := prog_12_method_69_code
def yJ9_min_7cf53 : MethodName := ⟨RJ9, "min", "(II)I"⟩
def RJ10 : String := "java/lang/System"
def TJ10 : u_T := fun k => match k with
  | _ => ("", "", "", false)
def tyJ10 : Nat → FieldType := fun k => match k with
  | _ => .int
abbrev wsJ100 : List Cond := u_ws RJ10 TJ10 0
theorem nmJ10 : ∀ a, a < 0 → ∀ b, b < 0 → a ≠ b → (TJ10 a).2.1 ≠ (TJ10 b).2.1 := by decide +kernel
theorem tyJ10_ok : ∀ k, k < 0 → parseFieldDescriptor (TJ10 k).2.2.1 = some (tyJ10 k) := by decide +kernel
def RJxa1e45 : String := "java/util/AbstractCollection"
def TJxa1e45 : u_T := fun k => match k with
  | _ => ("", "", "", false)
def tyJxa1e45 : Nat → FieldType := fun k => match k with
  | _ => .int
abbrev wsJxa1e450 : List Cond := u_ws RJxa1e45 TJxa1e45 0
theorem nmJxa1e45 : ∀ a, a < 0 → ∀ b, b < 0 → a ≠ b → (TJxa1e45 a).2.1 ≠ (TJxa1e45 b).2.1 := by decide +kernel
theorem tyJxa1e45_ok : ∀ k, k < 0 → parseFieldDescriptor (TJxa1e45 k).2.2.1 = some (tyJxa1e45 k) := by decide +kernel
abbrev cJxa1e45_init_da8c8 : ByteArray := prog_14_method_1_code
def yJxa1e45_init_da8c8 : MethodName := ⟨RJxa1e45, "<init>", "()V"⟩
def RJxc12de : String := "java/util/AbstractList"
def TJxc12de : u_T := fun k => match k with
  | _ => ("", "", "", false)
def tyJxc12de : Nat → FieldType := fun k => match k with
  | _ => .int
abbrev wsJxc12de0 : List Cond := u_ws RJxc12de TJxc12de 0
theorem nmJxc12de : ∀ a, a < 0 → ∀ b, b < 0 → a ≠ b → (TJxc12de a).2.1 ≠ (TJxc12de b).2.1 := by decide +kernel
theorem tyJxc12de_ok : ∀ k, k < 0 → parseFieldDescriptor (TJxc12de k).2.2.1 = some (tyJxc12de k) := by decide +kernel
abbrev cJxc12de_init_da8c8 : ByteArray := prog_15_method_1_code
def yJxc12de_init_da8c8 : MethodName := ⟨RJxc12de, "<init>", "()V"⟩
def RJx4a65c : String := "java/util/ArrayList"
def TJx4a65c : u_T := fun k => match k with
  | 0 => ("java/util/AbstractList", "modCount", "I", false)
  | 1 => ("java/util/ArrayList", "elementData", "[Ljava/lang/Object;", false)
  | _ => ("java/util/ArrayList", "size", "I", false)
def tyJx4a65c : Nat → FieldType := fun k => match k with
  | 0 => .int
  | 1 => .array (.object "java/lang/Object")
  | _ => .int
abbrev wsJx4a65c0 : List Cond := u_ws RJx4a65c TJx4a65c 3
theorem nmJx4a65c : ∀ a, a < 3 → ∀ b, b < 3 → a ≠ b → (TJx4a65c a).2.1 ≠ (TJx4a65c b).2.1 := by decide +kernel
theorem tyJx4a65c_ok : ∀ k, k < 3 → parseFieldDescriptor (TJx4a65c k).2.2.1 = some (tyJx4a65c k) := by decide +kernel
abbrev cJx4a65c_init_da8c8 : ByteArray := prog_16_method_2_code
def yJx4a65c_init_da8c8 : MethodName := ⟨RJx4a65c, "<init>", "()V"⟩
abbrev cJx4a65c_grow_92f84 : ByteArray := prog_16_method_6_code
def yJx4a65c_grow_92f84 : MethodName := ⟨RJx4a65c, "grow", "(I)[Ljava/lang/Object;"⟩
abbrev cJx4a65c_grow_d5877 : ByteArray := prog_16_method_7_code
def yJx4a65c_grow_d5877 : MethodName := ⟨RJx4a65c, "grow", "()[Ljava/lang/Object;"⟩
abbrev cJx4a65c_size_8abf5 : ByteArray := prog_16_method_8_code
def yJx4a65c_size_8abf5 : MethodName := ⟨RJx4a65c, "size", "()I"⟩
abbrev cJx4a65c_elementData_915e3 : ByteArray := prog_16_method_18_code
def yJx4a65c_elementData_915e3 : MethodName := ⟨RJx4a65c, "elementData", "(I)Ljava/lang/Object;"⟩
abbrev cJx4a65c_get_915e3 : ByteArray := prog_16_method_20_code
def yJx4a65c_get_915e3 : MethodName := ⟨RJx4a65c, "get", "(I)Ljava/lang/Object;"⟩
abbrev cJx4a65c_add_72be8 : ByteArray := prog_16_method_24_code
def yJx4a65c_add_72be8 : MethodName := ⟨RJx4a65c, "add", "(Ljava/lang/Object;[Ljava/lang/Object;I)V"⟩
abbrev cJx4a65c_add_9ea2d : ByteArray := prog_16_method_25_code
def yJx4a65c_add_9ea2d : MethodName := ⟨RJx4a65c, "add", "(Ljava/lang/Object;)Z"⟩
def RJ7 : String := "java/util/Arrays"
def TJ7 : u_T := fun k => match k with
  | _ => ("", "", "", false)
def tyJ7 : Nat → FieldType := fun k => match k with
  | _ => .int
abbrev wsJ70 : List Cond := u_ws RJ7 TJ7 0
theorem nmJ7 : ∀ a, a < 0 → ∀ b, b < 0 → a ≠ b → (TJ7 a).2.1 ≠ (TJ7 b).2.1 := by decide +kernel
theorem tyJ7_ok : ∀ k, k < 0 → parseFieldDescriptor (TJ7 k).2.2.1 = some (tyJ7 k) := by decide +kernel
abbrev cJ7_copyOf_1904c : ByteArray := prog_17_method_119_code
def yJ7_copyOf_1904c : MethodName := ⟨RJ7, "copyOf", "([Ljava/lang/Object;I)[Ljava/lang/Object;"⟩
abbrev cJ7_copyOf_6403c : ByteArray := prog_17_method_120_code
def yJ7_copyOf_6403c : MethodName := ⟨RJ7, "copyOf", "([Ljava/lang/Object;ILjava/lang/Class;)[Ljava/lang/Object;"⟩
def RJx5ef63 : String := "java/util/Collection"
def TJx5ef63 : u_T := fun k => match k with
  | _ => ("", "", "", false)
def tyJx5ef63 : Nat → FieldType := fun k => match k with
  | _ => .int
abbrev wsJx5ef630 : List Cond := u_ws RJx5ef63 TJx5ef63 0
theorem nmJx5ef63 : ∀ a, a < 0 → ∀ b, b < 0 → a ≠ b → (TJx5ef63 a).2.1 ≠ (TJx5ef63 b).2.1 := by decide +kernel
theorem tyJx5ef63_ok : ∀ k, k < 0 → parseFieldDescriptor (TJx5ef63 k).2.2.1 = some (tyJx5ef63 k) := by decide +kernel
def RJxbd725 : String := "java/util/List"
def TJxbd725 : u_T := fun k => match k with
  | _ => ("", "", "", false)
def tyJxbd725 : Nat → FieldType := fun k => match k with
  | _ => .int
abbrev wsJxbd7250 : List Cond := u_ws RJxbd725 TJxbd725 0
theorem nmJxbd725 : ∀ a, a < 0 → ∀ b, b < 0 → a ≠ b → (TJxbd725 a).2.1 ≠ (TJxbd725 b).2.1 := by decide +kernel
theorem tyJxbd725_ok : ∀ k, k < 0 → parseFieldDescriptor (TJxbd725 k).2.2.1 = some (tyJxbd725 k) := by decide +kernel
def RJ15 : String := "java/util/Objects"
def TJ15 : u_T := fun k => match k with
  | _ => ("", "", "", false)
def tyJ15 : Nat → FieldType := fun k => match k with
  | _ => .int
abbrev wsJ150 : List Cond := u_ws RJ15 TJ15 0
theorem nmJ15 : ∀ a, a < 0 → ∀ b, b < 0 → a ≠ b → (TJ15 a).2.1 ≠ (TJ15 b).2.1 := by decide +kernel
theorem tyJ15_ok : ∀ k, k < 0 → parseFieldDescriptor (TJ15 k).2.2.1 = some (tyJ15 k) := by decide +kernel
abbrev cJ15_checkIndex_7cf53 : ByteArray := prog_20_method_17_code
def yJ15_checkIndex_7cf53 : MethodName := ⟨RJ15, "checkIndex", "(II)I"⟩
def RJxf0a74 : String := "java/util/RandomAccess"
def TJxf0a74 : u_T := fun k => match k with
  | _ => ("", "", "", false)
def tyJxf0a74 : Nat → FieldType := fun k => match k with
  | _ => .int
abbrev wsJxf0a740 : List Cond := u_ws RJxf0a74 TJxf0a74 0
theorem nmJxf0a74 : ∀ a, a < 0 → ∀ b, b < 0 → a ≠ b → (TJxf0a74 a).2.1 ≠ (TJxf0a74 b).2.1 := by decide +kernel
theorem tyJxf0a74_ok : ∀ k, k < 0 → parseFieldDescriptor (TJxf0a74 k).2.2.1 = some (tyJxf0a74 k) := by decide +kernel
def RJxa66e6 : String := "java/util/SequencedCollection"
def TJxa66e6 : u_T := fun k => match k with
  | _ => ("", "", "", false)
def tyJxa66e6 : Nat → FieldType := fun k => match k with
  | _ => .int
abbrev wsJxa66e60 : List Cond := u_ws RJxa66e6 TJxa66e6 0
theorem nmJxa66e6 : ∀ a, a < 0 → ∀ b, b < 0 → a ≠ b → (TJxa66e6 a).2.1 ≠ (TJxa66e6 b).2.1 := by decide +kernel
theorem tyJxa66e6_ok : ∀ k, k < 0 → parseFieldDescriptor (TJxa66e6 k).2.2.1 = some (tyJxa66e6 k) := by decide +kernel
def RJ8 : String := "jdk/internal/util/ArraysSupport"
def TJ8 : u_T := fun k => match k with
  | _ => ("", "", "", false)
def tyJ8 : Nat → FieldType := fun k => match k with
  | _ => .int
abbrev wsJ80 : List Cond := u_ws RJ8 TJ8 0
theorem nmJ8 : ∀ a, a < 0 → ∀ b, b < 0 → a ≠ b → (TJ8 a).2.1 ≠ (TJ8 b).2.1 := by decide +kernel
theorem tyJ8_ok : ∀ k, k < 0 → parseFieldDescriptor (TJ8 k).2.2.1 = some (tyJ8 k) := by decide +kernel
abbrev cJ8_newLength_cabcc : ByteArray := prog_23_method_27_code
def yJ8_newLength_cabcc : MethodName := ⟨RJ8, "newLength", "(III)I"⟩
abbrev cJ8_hugeLength_7cf53 : ByteArray := prog_23_method_28_code
def yJ8_hugeLength_7cf53 : MethodName := ⟨RJ8, "hugeLength", "(II)I"⟩
def RJ3 : String := "jdk/internal/util/Preconditions"
def TJ3 : u_T := fun k => match k with
  | _ => ("", "", "", false)
def tyJ3 : Nat → FieldType := fun k => match k with
  | _ => .int
abbrev wsJ30 : List Cond := u_ws RJ3 TJ3 0
theorem nmJ3 : ∀ a, a < 0 → ∀ b, b < 0 → a ≠ b → (TJ3 a).2.1 ≠ (TJ3 b).2.1 := by decide +kernel
theorem tyJ3_ok : ∀ k, k < 0 → parseFieldDescriptor (TJ3 k).2.2.1 = some (tyJ3 k) := by decide +kernel
abbrev cJ3_checkIndex_8e157 : ByteArray := prog_24_method_11_code
def yJ3_checkIndex_8e157 : MethodName := ⟨RJ3, "checkIndex", "(IILjava/util/function/BiFunction;)I"⟩
def RL : String := "GreenHoursLaw"
abbrev cL_law : ByteArray := code
def yL_law : MethodName := ⟨RL, "law", "([I)Z"⟩
theorem inX0 : ∀ w ∈ wsX00, w ∈ lw_tbl := by decide +kernel
theorem inX1 : ∀ w ∈ wsX10, w ∈ lw_tbl := by decide +kernel
theorem inX2 : ∀ w ∈ wsX20, w ∈ lw_tbl := by decide +kernel
theorem inX3 : ∀ w ∈ wsX30, w ∈ lw_tbl := by decide +kernel
theorem inX4 : ∀ w ∈ wsX40, w ∈ lw_tbl := by decide +kernel
theorem inX5 : ∀ w ∈ wsX50, w ∈ lw_tbl := by decide +kernel
theorem inX6 : ∀ w ∈ wsX60, w ∈ lw_tbl := by decide +kernel
theorem inJx4a65c : ∀ w ∈ wsJx4a65c0, w ∈ lw_tbl := by decide +kernel
