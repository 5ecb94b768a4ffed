/-! ===== BEGIN words of one list among another's, by their places ===== -/
theorem goodIn_r {big : List Cond} (ws : List Cond) (ps : List Nat) (hp : ws = ps.filterMap (fun i => big[i]?)) (h : ws.all goodWord = true) : GoodIn big ws := by
  intro w hw
  have h1 := List.all_eq_true.mp h w hw
  rw [hp] at hw
  obtain ⟨i, -, hi⟩ := List.mem_filterMap.mp hw
  have hm : w ∈ big := by first | exact List.mem_of_getElem? hi | exact List.getElem?_mem hi
  exact ⟨hm, good_of_word h1⟩
theorem goodIn_app {big a b : List Cond} (ha : GoodIn big a) (hb : GoodIn big b) : GoodIn big (a ++ b) := fun w h => (List.mem_append.mp h).elim (ha w) (hb w)
theorem goodIn_ca {big a b : List Cond} {c : Cond} (ha : GoodIn big (c :: a)) (hb : GoodIn big b) : GoodIn big (c :: (a ++ b)) := fun w h => (List.mem_cons.mp h).elim (fun e => ha w (List.mem_cons.mpr (Or.inl e))) (fun h => (List.mem_append.mp h).elim (fun h => ha w (List.mem_cons.mpr (Or.inr h))) (hb w))
theorem goodIn_sub {big ws : List Cond} (hm : ∀ w ∈ ws, w ∈ big) (h : ws.all goodWord = true) : GoodIn big ws := fun w hw => ⟨hm w hw, good_of_word (List.all_eq_true.mp h w hw)⟩
/-! ===== END ===== -/

def RX0 : String := "BreadBox$Course"
def TX0 : u_T := fun k => match k with
  | 0 => ("BreadBox$Course", "rules", "LBreadBox$Rules;", true)
  | 1 => ("BreadBox$Course", "granted", "[I", true)
  | 2 => ("BreadBox$Course", "sick", "LBreadBox$Member;", false)
  | 3 => ("BreadBox$Course", "knownWeek", "I", false)
  | 4 => ("BreadBox$Course", "latest", "I", false)
  | 5 => ("BreadBox$Course", "nature", "I", false)
  | 6 => ("BreadBox$Course", "nth", "I", false)
  | 7 => ("BreadBox$Course", "lastWaiting", "I", false)
  | 8 => ("BreadBox$Course", "lastWhole", "I", false)
  | 9 => ("BreadBox$Course", "lastHalf", "I", false)
  | 10 => ("BreadBox$Course", "outWeek", "I", false)
  | _ => ("BreadBox$Course", "isOut", "Z", false)
def tyX0 : Nat → FieldType := fun k => match k with
  | 0 => .object "BreadBox$Rules"
  | 1 => .array .int
  | 2 => .object "BreadBox$Member"
  | 3 => .int
  | 4 => .int
  | 5 => .int
  | 6 => .int
  | 7 => .int
  | 8 => .int
  | 9 => .int
  | 10 => .int
  | _ => .boolean
abbrev wsX00 : List Cond := u_ws RX0 TX0 12
theorem nmX0 : ∀ a, a < 12 → ∀ b, b < 12 → a ≠ b → (TX0 a).2.1 ≠ (TX0 b).2.1 := by decide +kernel
theorem tyX0_ok : ∀ k, k < 12 → parseFieldDescriptor (TX0 k).2.2.1 = some (tyX0 k) := by decide +kernel
abbrev cX0_init : ByteArray := prog_2_method_1_code
def yX0_init : MethodName := ⟨RX0, "<init>", "(LBreadBox$Rules;)V"⟩
abbrev cX0_grantOf : ByteArray := prog_2_method_2_code
def yX0_grantOf : MethodName := ⟨RX0, "grantOf", "(LBreadBox$Member;II)I"⟩
abbrev cX0_natureOf : ByteArray := prog_2_method_3_code
def yX0_natureOf : MethodName := ⟨RX0, "natureOf", "(LBreadBox$Member;II)I"⟩
abbrev cX0_goOver : ByteArray := prog_2_method_4_code
def yX0_goOver : MethodName := ⟨RX0, "goOver", "(LBreadBox$Member;II[I)V"⟩
abbrev cX0_begin : ByteArray := prog_2_method_5_code
def yX0_begin : MethodName := ⟨RX0, "begin", "(LBreadBox$Member;I)V"⟩
abbrev cX0_goTo : ByteArray := prog_2_method_6_code
def yX0_goTo : MethodName := ⟨RX0, "goTo", "(I)V"⟩
abbrev cX0_beginIllness : ByteArray := prog_2_method_7_code
def yX0_beginIllness : MethodName := ⟨RX0, "beginIllness", "(I)V"⟩
abbrev cX0_natureOfNth : ByteArray := prog_2_method_8_code
def yX0_natureOfNth : MethodName := ⟨RX0, "natureOfNth", "()I"⟩
abbrev cX0_coins : ByteArray := prog_2_method_9_code
def yX0_coins : MethodName := ⟨RX0, "coins", "(I)I"⟩
def RX1 : String := "BreadBox$Ledger"
def TX1 : u_T := fun k => match k with
  | 0 => ("BreadBox$Ledger", "row", "[I", false)
  | _ => ("BreadBox$Ledger", "size", "I", false)
def tyX1 : Nat → FieldType := fun k => match k with
  | 0 => .array .int
  | _ => .int
abbrev wsX10 : List Cond := u_ws RX1 TX1 2
theorem nmX1 : ∀ a, a < 2 → ∀ b, b < 2 → a ≠ b → (TX1 a).2.1 ≠ (TX1 b).2.1 := by decide +kernel
theorem tyX1_ok : ∀ k, k < 2 → parseFieldDescriptor (TX1 k).2.2.1 = some (tyX1 k) := by decide +kernel
abbrev cX1_init : ByteArray := prog_3_method_1_code
def yX1_init : MethodName := ⟨RX1, "<init>", "()V"⟩
abbrev cX1_makeRoom : ByteArray := prog_3_method_2_code
def yX1_makeRoom : MethodName := ⟨RX1, "makeRoom", "(I)V"⟩
abbrev cX1_add : ByteArray := prog_3_method_3_code
def yX1_add : MethodName := ⟨RX1, "add", "(IIII)V"⟩
abbrev cX1_tell : ByteArray := prog_3_method_4_code
def yX1_tell : MethodName := ⟨RX1, "tell", "(II)I"⟩
def RX2 : String := "BreadBox$Member"
def TX2 : u_T := fun k => match k with
  | 0 => ("BreadBox$Member", "age", "I", true)
  | 1 => ("BreadBox$Member", "lodge", "I", true)
  | 2 => ("BreadBox$Member", "joined", "I", true)
  | 3 => ("BreadBox$Member", "paidUpTo", "[I", true)
  | 4 => ("BreadBox$Member", "bookedFor", "[I", true)
  | 5 => ("BreadBox$Member", "worked", "[I", true)
  | 6 => ("BreadBox$Member", "bookedInAll", "I", false)
  | 7 => ("BreadBox$Member", "stale", "Z", false)
  | _ => ("BreadBox$Member", "firstPaper", "LBreadBox$Paper;", false)
def tyX2 : Nat → FieldType := fun k => match k with
  | 0 => .int
  | 1 => .int
  | 2 => .int
  | 3 => .array .int
  | 4 => .array .int
  | 5 => .array .int
  | 6 => .int
  | 7 => .boolean
  | _ => .object "BreadBox$Paper"
abbrev wsX20 : List Cond := u_ws RX2 TX2 9
theorem nmX2 : ∀ a, a < 9 → ∀ b, b < 9 → a ≠ b → (TX2 a).2.1 ≠ (TX2 b).2.1 := by decide +kernel
theorem tyX2_ok : ∀ k, k < 9 → parseFieldDescriptor (TX2 k).2.2.1 = some (tyX2 k) := by decide +kernel
abbrev cX2_init : ByteArray := prog_4_method_1_code
def yX2_init : MethodName := ⟨RX2, "<init>", "(III)V"⟩
abbrev cX2_take : ByteArray := prog_4_method_2_code
def yX2_take : MethodName := ⟨RX2, "take", "(LBreadBox$Paper;)V"⟩
abbrev cX2_arrearsIn : ByteArray := prog_4_method_3_code
def yX2_arrearsIn : MethodName := ⟨RX2, "arrearsIn", "(IILBreadBox$Rules;)I"⟩
abbrev cX2_isOutIn : ByteArray := prog_4_method_4_code
def yX2_isOutIn : MethodName := ⟨RX2, "isOutIn", "(IILBreadBox$Rules;)Z"⟩
abbrev cX2_differenceIn : ByteArray := prog_4_method_5_code
def yX2_differenceIn : MethodName := ⟨RX2, "differenceIn", "(I)I"⟩
abbrev cX2_differencesUpTo : ByteArray := prog_4_method_6_code
def yX2_differencesUpTo : MethodName := ⟨RX2, "differencesUpTo", "(I)I"⟩
abbrev cX2_bookDifferenceIn : ByteArray := prog_4_method_7_code
def yX2_bookDifferenceIn : MethodName := ⟨RX2, "bookDifferenceIn", "(I)V"⟩
abbrev cX2_endWeek : ByteArray := prog_4_method_8_code
def yX2_endWeek : MethodName := ⟨RX2, "endWeek", "(I)V"⟩
def RX3 : String := "BreadBox$Paper"
def TX3 : u_T := fun k => match k with
  | 0 => ("BreadBox$Paper", "memberNumber", "I", true)
  | 1 => ("BreadBox$Paper", "first", "I", true)
  | 2 => ("BreadBox$Paper", "last", "I", true)
  | 3 => ("BreadBox$Paper", "toldIn", "I", true)
  | 4 => ("BreadBox$Paper", "takenBackIn", "I", false)
  | _ => ("BreadBox$Paper", "next", "LBreadBox$Paper;", false)
def tyX3 : Nat → FieldType := fun k => match k with
  | 0 => .int
  | 1 => .int
  | 2 => .int
  | 3 => .int
  | 4 => .int
  | _ => .object "BreadBox$Paper"
abbrev wsX30 : List Cond := u_ws RX3 TX3 6
theorem nmX3 : ∀ a, a < 6 → ∀ b, b < 6 → a ≠ b → (TX3 a).2.1 ≠ (TX3 b).2.1 := by decide +kernel
theorem tyX3_ok : ∀ k, k < 6 → parseFieldDescriptor (TX3 k).2.2.1 = some (tyX3 k) := by decide +kernel
abbrev cX3_init : ByteArray := prog_5_method_1_code
def yX3_init : MethodName := ⟨RX3, "<init>", "(IIII)V"⟩
abbrev cX3_isKnownIn : ByteArray := prog_5_method_2_code
def yX3_isKnownIn : MethodName := ⟨RX3, "isKnownIn", "(I)Z"⟩
def RX4 : String := "BreadBox$Rules"
def TX4 : u_T := fun k => match k with
  | 0 => ("BreadBox$Rules", "kindOf", "[I", true)
  | 1 => ("BreadBox$Rules", "fromOf", "[I", true)
  | 2 => ("BreadBox$Rules", "valueOf", "[I", true)
  | 3 => ("BreadBox$Rules", "toldIn", "[I", true)
  | 4 => ("BreadBox$Rules", "size", "I", false)
  | 5 => ("BreadBox$Rules", "seen", "[[I", true)
  | 6 => ("BreadBox$Rules", "duesAhead", "[I", true)
  | 7 => ("BreadBox$Rules", "seenRules", "I", false)
  | _ => ("BreadBox$Rules", "seenWeek", "I", false)
def tyX4 : Nat → FieldType := fun k => match k with
  | 0 => .array .int
  | 1 => .array .int
  | 2 => .array .int
  | 3 => .array .int
  | 4 => .int
  | 5 => .array (.array .int)
  | 6 => .array .int
  | 7 => .int
  | _ => .int
abbrev wsX40 : List Cond := u_ws RX4 TX4 9
theorem nmX4 : ∀ a, a < 9 → ∀ b, b < 9 → a ≠ b → (TX4 a).2.1 ≠ (TX4 b).2.1 := by decide +kernel
theorem tyX4_ok : ∀ k, k < 9 → parseFieldDescriptor (TX4 k).2.2.1 = some (tyX4 k) := by decide +kernel
abbrev cX4_init : ByteArray := prog_6_method_1_code
def yX4_init : MethodName := ⟨RX4, "<init>", "()V"⟩
abbrev cX4_isKind : ByteArray := prog_6_method_2_code
def yX4_isKind : MethodName := ⟨RX4, "isKind", "(I)Z"⟩
abbrev cX4_isWeek : ByteArray := prog_6_method_3_code
def yX4_isWeek : MethodName := ⟨RX4, "isWeek", "(I)Z"⟩
abbrev cX4_mayBe : ByteArray := prog_6_method_4_code
def yX4_mayBe : MethodName := ⟨RX4, "mayBe", "(III)Z"⟩
abbrev cX4_isFull : ByteArray := prog_6_method_5_code
def yX4_isFull : MethodName := ⟨RX4, "isFull", "()Z"⟩
abbrev cX4_add : ByteArray := prog_6_method_6_code
def yX4_add : MethodName := ⟨RX4, "add", "(IIII)V"⟩
abbrev cX4_inForce : ByteArray := prog_6_method_7_code
def yX4_inForce : MethodName := ⟨RX4, "inForce", "(III)I"⟩
abbrev cX4_lookFrom : ByteArray := prog_6_method_8_code
def yX4_lookFrom : MethodName := ⟨RX4, "lookFrom", "(II)V"⟩
abbrev cX4_suppose : ByteArray := prog_6_method_9_code
def yX4_suppose : MethodName := ⟨RX4, "suppose", "(IIII)V"⟩
abbrev cX4_forgetSupposed : ByteArray := prog_6_method_10_code
def yX4_forgetSupposed : MethodName := ⟨RX4, "forgetSupposed", "()V"⟩
abbrev cX4_write : ByteArray := prog_6_method_11_code
def yX4_write : MethodName := ⟨RX4, "write", "(IIII)V"⟩
abbrev cX4_knownIn : ByteArray := prog_6_method_12_code
def yX4_knownIn : MethodName := ⟨RX4, "knownIn", "(I)I"⟩
abbrev cX4_look : ByteArray := prog_6_method_13_code
def yX4_look : MethodName := ⟨RX4, "look", "(II)V"⟩
abbrev cX4_handOn : ByteArray := prog_6_method_14_code
def yX4_handOn : MethodName := ⟨RX4, "handOn", "([III)V"⟩
def RX5 : String := "BreadBox$Tables"
def TX5 : u_T := fun k => match k with
  | 0 => ("BreadBox$Tables", "living", "[I", true)
  | _ => ("BreadBox$Tables", "sickDays", "[I", true)
def tyX5 : Nat → FieldType := fun k => match k with
  | 0 => .array .int
  | _ => .array .int
abbrev wsX50 : List Cond := u_ws RX5 TX5 2
theorem nmX5 : ∀ a, a < 2 → ∀ b, b < 2 → a ≠ b → (TX5 a).2.1 ≠ (TX5 b).2.1 := by decide +kernel
theorem tyX5_ok : ∀ k, k < 2 → parseFieldDescriptor (TX5 k).2.2.1 = some (tyX5 k) := by decide +kernel
abbrev cX5_init : ByteArray := prog_7_method_1_code
def yX5_init : MethodName := ⟨RX5, "<init>", "()V"⟩
abbrev cX5_change : ByteArray := prog_7_method_2_code
def yX5_change : MethodName := ⟨RX5, "change", "(III)Z"⟩
abbrev cX5_livingAt : ByteArray := prog_7_method_3_code
def yX5_livingAt : MethodName := ⟨RX5, "livingAt", "(I)I"⟩
abbrev cX5_sumOver : ByteArray := prog_7_method_4_code
def yX5_sumOver : MethodName := ⟨RX5, "sumOver", "(IIII)J"⟩
def RX6 : String := "BreadBox"
def TX6 : u_T := fun k => match k with
  | 0 => ("BreadBox", "members", "[LBreadBox$Member;", true)
  | 1 => ("BreadBox", "papers", "[LBreadBox$Paper;", true)
  | 2 => ("BreadBox", "rules", "LBreadBox$Rules;", true)
  | 3 => ("BreadBox", "course", "LBreadBox$Course;", true)
  | 4 => ("BreadBox", "ledger", "LBreadBox$Ledger;", true)
  | 5 => ("BreadBox", "tables", "LBreadBox$Tables;", true)
  | 6 => ("BreadBox", "memberCount", "I", false)
  | 7 => ("BreadBox", "paperCount", "I", false)
  | _ => ("BreadBox", "now", "I", false)
def tyX6 : Nat → FieldType := fun k => match k with
  | 0 => .array (.object "BreadBox$Member")
  | 1 => .array (.object "BreadBox$Paper")
  | 2 => .object "BreadBox$Rules"
  | 3 => .object "BreadBox$Course"
  | 4 => .object "BreadBox$Ledger"
  | 5 => .object "BreadBox$Tables"
  | 6 => .int
  | 7 => .int
  | _ => .int
abbrev wsX60 : List Cond := u_ws RX6 TX6 9
theorem nmX6 : ∀ a, a < 9 → ∀ b, b < 9 → a ≠ b → (TX6 a).2.1 ≠ (TX6 b).2.1 := by decide +kernel
theorem tyX6_ok : ∀ k, k < 9 → parseFieldDescriptor (TX6 k).2.2.1 = some (tyX6 k) := by decide +kernel
abbrev cX6_init : ByteArray := prog_1_method_1_code
def yX6_init : MethodName := ⟨RX6, "<init>", "()V"⟩
abbrev cX6_join : ByteArray := prog_1_method_2_code
def yX6_join : MethodName := ⟨RX6, "join", "(II)I"⟩
abbrev cX6_pay : ByteArray := prog_1_method_3_code
def yX6_pay : MethodName := ⟨RX6, "pay", "(II)I"⟩
abbrev cX6_rule : ByteArray := prog_1_method_4_code
def yX6_rule : MethodName := ⟨RX6, "rule", "(III)I"⟩
abbrev cX6_paper : ByteArray := prog_1_method_5_code
def yX6_paper : MethodName := ⟨RX6, "paper", "(III)I"⟩
abbrev cX6_back : ByteArray := prog_1_method_6_code
def yX6_back : MethodName := ⟨RX6, "back", "(I)Z"⟩
abbrev cX6_week : ByteArray := prog_1_method_7_code
def yX6_week : MethodName := ⟨RX6, "week", "()I"⟩
abbrev cX6_table : ByteArray := prog_1_method_8_code
def yX6_table : MethodName := ⟨RX6, "table", "(III)Z"⟩
abbrev cX6_force : ByteArray := prog_1_method_9_code
def yX6_force : MethodName := ⟨RX6, "force", "(III)I"⟩
abbrev cX6_grant : ByteArray := prog_1_method_10_code
def yX6_grant : MethodName := ⟨RX6, "grant", "(III)I"⟩
abbrev cX6_day : ByteArray := prog_1_method_11_code
def yX6_day : MethodName := ⟨RX6, "day", "(III)I"⟩
abbrev cX6_arrears : ByteArray := prog_1_method_12_code
def yX6_arrears : MethodName := ⟨RX6, "arrears", "(III)I"⟩
abbrev cX6_out : ByteArray := prog_1_method_13_code
def yX6_out : MethodName := ⟨RX6, "out", "(III)Z"⟩
abbrev cX6_what : ByteArray := prog_1_method_14_code
def yX6_what : MethodName := ⟨RX6, "what", "(IIIII)I"⟩
abbrev cX6_booked : ByteArray := prog_1_method_15_code
def yX6_booked : MethodName := ⟨RX6, "booked", "(II)I"⟩
abbrev cX6_entry : ByteArray := prog_1_method_16_code
def yX6_entry : MethodName := ⟨RX6, "entry", "(II)I"⟩
abbrev cX6_worth : ByteArray := prog_1_method_17_code
def yX6_worth : MethodName := ⟨RX6, "worth", "(III)J"⟩
abbrev cX6_lodge : ByteArray := prog_1_method_18_code
def yX6_lodge : MethodName := ⟨RX6, "lodge", "(II)I"⟩
abbrev cX6_member : ByteArray := prog_1_method_19_code
def yX6_member : MethodName := ⟨RX6, "member", "(II)I"⟩
abbrev cX6_told : ByteArray := prog_1_method_20_code
def yX6_told : MethodName := ⟨RX6, "told", "(II)I"⟩
abbrev cX6_count : ByteArray := prog_1_method_21_code
def yX6_count : MethodName := ⟨RX6, "count", "(I)I"⟩
abbrev cX6_memberAt : ByteArray := prog_1_method_22_code
def yX6_memberAt : MethodName := ⟨RX6, "memberAt", "(I)LBreadBox$Member;"⟩
abbrev cX6_paperAt : ByteArray := prog_1_method_23_code
def yX6_paperAt : MethodName := ⟨RX6, "paperAt", "(I)LBreadBox$Paper;"⟩
abbrev cX6_isPast : ByteArray := prog_1_method_24_code
def yX6_isPast : MethodName := ⟨RX6, "isPast", "(I)Z"⟩
abbrev cX6_lastDayOf : ByteArray := prog_1_method_25_code
def yX6_lastDayOf : MethodName := ⟨RX6, "lastDayOf", "(I)I"⟩
abbrev cX6_shareOf : ByteArray := prog_1_method_26_code
def yX6_shareOf : MethodName := ⟨RX6, "shareOf", "(LBreadBox$Member;I)I"⟩
abbrev cX6_coinsPaid : ByteArray := prog_1_method_27_code
def yX6_coinsPaid : MethodName := ⟨RX6, "coinsPaid", "()I"⟩
abbrev cX6_coinsBooked : ByteArray := prog_1_method_28_code
def yX6_coinsBooked : MethodName := ⟨RX6, "coinsBooked", "()I"⟩
abbrev cX6_membersOut : ByteArray := prog_1_method_29_code
def yX6_membersOut : MethodName := ⟨RX6, "membersOut", "()I"⟩
abbrev cX6_workAnew : ByteArray := prog_1_method_30_code
def yX6_workAnew : MethodName := ⟨RX6, "workAnew", "()I"⟩
abbrev cX6_bookDifferences : ByteArray := prog_1_method_31_code
def yX6_bookDifferences : MethodName := ⟨RX6, "bookDifferences", "(I)V"⟩
abbrev cX6_greatestDivisor : ByteArray := prog_1_method_32_code
def yX6_greatestDivisor : MethodName := ⟨RX6, "greatestDivisor", "(JJ)J"⟩
def RX7 : String := "BreadBoxModel"
def TX7 : u_T := fun k => match k with
  | 0 => ("BreadBoxModel", "now", "I", false)
  | 1 => ("BreadBoxModel", "members", "I", false)
  | 2 => ("BreadBoxModel", "rules", "I", false)
  | 3 => ("BreadBoxModel", "papers", "I", false)
  | 4 => ("BreadBoxModel", "bookings", "I", false)
  | 5 => ("BreadBoxModel", "age", "[I", true)
  | 6 => ("BreadBoxModel", "lodgeOf", "[I", true)
  | 7 => ("BreadBoxModel", "joined", "[I", true)
  | 8 => ("BreadBoxModel", "paid", "[I", true)
  | 9 => ("BreadBoxModel", "ruleKind", "[I", true)
  | 10 => ("BreadBoxModel", "ruleFrom", "[I", true)
  | 11 => ("BreadBoxModel", "ruleValue", "[I", true)
  | 12 => ("BreadBoxModel", "ruleTold", "[I", true)
  | 13 => ("BreadBoxModel", "paperOf", "[I", true)
  | 14 => ("BreadBoxModel", "paperFirst", "[I", true)
  | 15 => ("BreadBoxModel", "paperLast", "[I", true)
  | 16 => ("BreadBoxModel", "paperTold", "[I", true)
  | 17 => ("BreadBoxModel", "paperBack", "[I", true)
  | 18 => ("BreadBoxModel", "booked", "[I", true)
  | 19 => ("BreadBoxModel", "entryIn", "[I", true)
  | 20 => ("BreadBoxModel", "entryFor", "[I", true)
  | 21 => ("BreadBoxModel", "entryOf", "[I", true)
  | 22 => ("BreadBoxModel", "entryCoins", "[I", true)
  | 23 => ("BreadBoxModel", "living", "[I", true)
  | 24 => ("BreadBoxModel", "sickDays", "[I", true)
  | 25 => ("BreadBoxModel", "table", "[I", true)
  | 26 => ("BreadBoxModel", "knownIn", "I", false)
  | 27 => ("BreadBoxModel", "what", "[I", true)
  | 28 => ("BreadBoxModel", "coins", "[I", true)
  | 29 => ("BreadBoxModel", "sick", "[Z", true)
  | 30 => ("BreadBoxModel", "outIn", "[Z", true)
  | 31 => ("BreadBoxModel", "granted", "[I", true)
  | _ => ("BreadBoxModel", "differ", "[I", true)
def tyX7 : Nat → FieldType := fun k => match k with
  | 0 => .int
  | 1 => .int
  | 2 => .int
  | 3 => .int
  | 4 => .int
  | 5 => .array .int
  | 6 => .array .int
  | 7 => .array .int
  | 8 => .array .int
  | 9 => .array .int
  | 10 => .array .int
  | 11 => .array .int
  | 12 => .array .int
  | 13 => .array .int
  | 14 => .array .int
  | 15 => .array .int
  | 16 => .array .int
  | 17 => .array .int
  | 18 => .array .int
  | 19 => .array .int
  | 20 => .array .int
  | 21 => .array .int
  | 22 => .array .int
  | 23 => .array .int
  | 24 => .array .int
  | 25 => .array .int
  | 26 => .int
  | 27 => .array .int
  | 28 => .array .int
  | 29 => .array .boolean
  | 30 => .array .boolean
  | 31 => .array .int
  | _ => .array .int
abbrev wsX70 : List Cond := u_ws RX7 TX7 33
theorem nmX7 : ∀ a, a < 33 → ∀ b, b < 33 → a ≠ b → (TX7 a).2.1 ≠ (TX7 b).2.1 := by decide +kernel
theorem tyX7_ok : ∀ k, k < 33 → parseFieldDescriptor (TX7 k).2.2.1 = some (tyX7 k) := by decide +kernel
abbrev cX7_init : ByteArray := prog_9_method_1_code
def yX7_init : MethodName := ⟨RX7, "<init>", "()V"⟩
abbrev cX7_in : ByteArray := prog_9_method_2_code
def yX7_in : MethodName := ⟨RX7, "in", "(III)Z"⟩
abbrev cX7_isMember : ByteArray := prog_9_method_3_code
def yX7_isMember : MethodName := ⟨RX7, "isMember", "(I)Z"⟩
abbrev cX7_isWeek : ByteArray := prog_9_method_4_code
def yX7_isWeek : MethodName := ⟨RX7, "isWeek", "(I)Z"⟩
abbrev cX7_atFirst : ByteArray := prog_9_method_5_code
def yX7_atFirst : MethodName := ⟨RX7, "atFirst", "(I)I"⟩
abbrev cX7_isValue : ByteArray := prog_9_method_6_code
def yX7_isValue : MethodName := ⟨RX7, "isValue", "(II)Z"⟩
abbrev cX7_inForce : ByteArray := prog_9_method_7_code
def yX7_inForce : MethodName := ⟨RX7, "inForce", "(IIII)I"⟩
abbrev cX7_know : ByteArray := prog_9_method_8_code
def yX7_know : MethodName := ⟨RX7, "know", "(II)V"⟩
abbrev cX7_value : ByteArray := prog_9_method_9_code
def yX7_value : MethodName := ⟨RX7, "value", "(II)I"⟩
abbrev cX7_owes : ByteArray := prog_9_method_10_code
def yX7_owes : MethodName := ⟨RX7, "owes", "(II)I"⟩
abbrev cX7_isOut : ByteArray := prog_9_method_11_code
def yX7_isOut : MethodName := ⟨RX7, "isOut", "(II)Z"⟩
abbrev cX7_go : ByteArray := prog_9_method_12_code
def yX7_go : MethodName := ⟨RX7, "go", "(I)V"⟩
abbrev cX7_grantDay : ByteArray := prog_9_method_13_code
def yX7_grantDay : MethodName := ⟨RX7, "grantDay", "(IIII)V"⟩
abbrev cX7_join : ByteArray := prog_9_method_14_code
def yX7_join : MethodName := ⟨RX7, "join", "(II)I"⟩
abbrev cX7_pay : ByteArray := prog_9_method_15_code
def yX7_pay : MethodName := ⟨RX7, "pay", "(II)I"⟩
abbrev cX7_write : ByteArray := prog_9_method_16_code
def yX7_write : MethodName := ⟨RX7, "write", "(III)V"⟩
abbrev cX7_isRule : ByteArray := prog_9_method_17_code
def yX7_isRule : MethodName := ⟨RX7, "isRule", "(III)Z"⟩
abbrev cX7_rule : ByteArray := prog_9_method_18_code
def yX7_rule : MethodName := ⟨RX7, "rule", "(III)I"⟩
abbrev cX7_paper : ByteArray := prog_9_method_19_code
def yX7_paper : MethodName := ⟨RX7, "paper", "(III)I"⟩
abbrev cX7_back : ByteArray := prog_9_method_20_code
def yX7_back : MethodName := ⟨RX7, "back", "(I)Z"⟩
abbrev cX7_week : ByteArray := prog_9_method_21_code
def yX7_week : MethodName := ⟨RX7, "week", "()I"⟩
abbrev cX7_book : ByteArray := prog_9_method_22_code
def yX7_book : MethodName := ⟨RX7, "book", "(III)V"⟩
abbrev cX7_table : ByteArray := prog_9_method_23_code
def yX7_table : MethodName := ⟨RX7, "table", "(III)Z"⟩
abbrev cX7_force : ByteArray := prog_9_method_24_code
def yX7_force : MethodName := ⟨RX7, "force", "(III)I"⟩
abbrev cX7_grant : ByteArray := prog_9_method_25_code
def yX7_grant : MethodName := ⟨RX7, "grant", "(III)I"⟩
abbrev cX7_day : ByteArray := prog_9_method_26_code
def yX7_day : MethodName := ⟨RX7, "day", "(III)I"⟩
abbrev cX7_arrears : ByteArray := prog_9_method_27_code
def yX7_arrears : MethodName := ⟨RX7, "arrears", "(III)I"⟩
abbrev cX7_out : ByteArray := prog_9_method_28_code
def yX7_out : MethodName := ⟨RX7, "out", "(III)Z"⟩
abbrev cX7_what : ByteArray := prog_9_method_29_code
def yX7_what : MethodName := ⟨RX7, "what", "(IIIII)I"⟩
abbrev cX7_booked : ByteArray := prog_9_method_30_code
def yX7_booked : MethodName := ⟨RX7, "booked", "(II)I"⟩
abbrev cX7_entry : ByteArray := prog_9_method_31_code
def yX7_entry : MethodName := ⟨RX7, "entry", "(II)I"⟩
abbrev cX7_livingAt : ByteArray := prog_9_method_32_code
def yX7_livingAt : MethodName := ⟨RX7, "livingAt", "(I)I"⟩
abbrev cX7_sickAt : ByteArray := prog_9_method_33_code
def yX7_sickAt : MethodName := ⟨RX7, "sickAt", "(I)I"⟩
abbrev cX7_worth : ByteArray := prog_9_method_34_code
def yX7_worth : MethodName := ⟨RX7, "worth", "(III)J"⟩
abbrev cX7_paidBy : ByteArray := prog_9_method_35_code
def yX7_paidBy : MethodName := ⟨RX7, "paidBy", "(I)I"⟩
abbrev cX7_bookedFor : ByteArray := prog_9_method_36_code
def yX7_bookedFor : MethodName := ⟨RX7, "bookedFor", "(I)I"⟩
abbrev cX7_lodge : ByteArray := prog_9_method_37_code
def yX7_lodge : MethodName := ⟨RX7, "lodge", "(II)I"⟩
abbrev cX7_member : ByteArray := prog_9_method_38_code
def yX7_member : MethodName := ⟨RX7, "member", "(II)I"⟩
abbrev cX7_told : ByteArray := prog_9_method_39_code
def yX7_told : MethodName := ⟨RX7, "told", "(II)I"⟩
abbrev cX7_count : ByteArray := prog_9_method_40_code
def yX7_count : MethodName := ⟨RX7, "count", "(I)I"⟩
abbrev cX7_outNow : ByteArray := prog_9_method_41_code
def yX7_outNow : MethodName := ⟨RX7, "outNow", "()I"⟩
def RJx8e188 : String := "java/lang/Cloneable"
def TJx8e188 : u_T := fun k => match k with
  | _ => ("", "", "", false)
def tyJx8e188 : Nat → FieldType := fun k => match k with
  | _ => .int
abbrev wsJx8e1880 : List Cond := u_ws RJx8e188 TJx8e188 0
theorem nmJx8e188 : ∀ a, a < 0 → ∀ b, b < 0 → a ≠ b → (TJx8e188 a).2.1 ≠ (TJx8e188 b).2.1 := by decide +kernel
theorem tyJx8e188_ok : ∀ k, k < 0 → parseFieldDescriptor (TJx8e188 k).2.2.1 = some (tyJx8e188 k) := by decide +kernel
def RJ9 : String := "java/lang/Math"
def TJ9 : u_T := fun k => match k with
  | _ => ("", "", "", false)
def tyJ9 : Nat → FieldType := fun k => match k with
  | _ => .int
abbrev wsJ90 : List Cond := u_ws RJ9 TJ9 0
theorem nmJ9 : ∀ a, a < 0 → ∀ b, b < 0 → a ≠ b → (TJ9 a).2.1 ≠ (TJ9 b).2.1 := by decide +kernel
theorem tyJ9_ok : ∀ k, k < 0 → parseFieldDescriptor (TJ9 k).2.2.1 = some (tyJ9 k) := by decide +kernel
abbrev cJ9_abs_067f4 : ByteArray := prog_11_method_61_code
def yJ9_abs_067f4 : MethodName := ⟨RJ9, "abs", "(J)J"⟩
abbrev cJ9_max_7cf53 : ByteArray := prog_11_method_65_code
def yJ9_max_7cf53 : MethodName := ⟨RJ9, "max", "(II)I"⟩
abbrev cJ9_max_f86c9 : ByteArray := prog_11_method_66_code
def yJ9_max_f86c9 : MethodName := ⟨RJ9, "max", "(JJ)J"⟩
abbrev cJ9_min_7cf53 : ByteArray := prog_11_method_69_code
def yJ9_min_7cf53 : MethodName := ⟨RJ9, "min", "(II)I"⟩
def RJ10 : String := "java/lang/System"
def TJ10 : u_T := fun k => match k with
  | _ => ("", "", "", false)
def tyJ10 : Nat → FieldType := fun k => match k with
  | _ => .int
abbrev wsJ100 : List Cond := u_ws RJ10 TJ10 0
theorem nmJ10 : ∀ a, a < 0 → ∀ b, b < 0 → a ≠ b → (TJ10 a).2.1 ≠ (TJ10 b).2.1 := by decide +kernel
theorem tyJ10_ok : ∀ k, k < 0 → parseFieldDescriptor (TJ10 k).2.2.1 = some (tyJ10 k) := by decide +kernel
def RJ7 : String := "java/util/Arrays"
def TJ7 : u_T := fun k => match k with
  | _ => ("", "", "", false)
def tyJ7 : Nat → FieldType := fun k => match k with
  | _ => .int
abbrev wsJ70 : List Cond := u_ws RJ7 TJ7 0
theorem nmJ7 : ∀ a, a < 0 → ∀ b, b < 0 → a ≠ b → (TJ7 a).2.1 ≠ (TJ7 b).2.1 := by decide +kernel
theorem tyJ7_ok : ∀ k, k < 0 → parseFieldDescriptor (TJ7 k).2.2.1 = some (tyJ7 k) := by decide +kernel
abbrev cJ7_copyOf_59c91 : ByteArray := prog_13_method_123_code
def yJ7_copyOf_59c91 : MethodName := ⟨RJ7, "copyOf", "([II)[I"⟩
def RL : String := "BreadBoxLaw"
abbrev cL_law : ByteArray := code
def yL_law : MethodName := ⟨RL, "law", "([I)Z"⟩
/-- the words of the tables that hold in every later state -/
def zwt : List Cond := lw_tbl.filter goodWord
theorem zwt_of {w : Cond} (h : w ∈ lw_tbl) (g : goodWord w = true) : w ∈ zwt := List.mem_filter.mpr ⟨h, g⟩
theorem zwt_in {w : Cond} (h : w ∈ zwt) : w ∈ lw_tbl := (List.mem_filter.mp h).1
theorem zwt_good {w : Cond} (h : w ∈ zwt) : goodWord w = true := (List.mem_filter.mp h).2
theorem zinX0 : ∀ w ∈ wsX00, w ∈ zwt := fun w h => zwt_of ((by decide +kernel : ∀ w ∈ wsX00, w ∈ lw_tbl) w h) (List.all_eq_true.mp (by decide +kernel : wsX00.all goodWord = true) w h)
theorem zinX1 : ∀ w ∈ wsX10, w ∈ zwt := fun w h => zwt_of ((by decide +kernel : ∀ w ∈ wsX10, w ∈ lw_tbl) w h) (List.all_eq_true.mp (by decide +kernel : wsX10.all goodWord = true) w h)
theorem zinX2 : ∀ w ∈ wsX20, w ∈ zwt := fun w h => zwt_of ((by decide +kernel : ∀ w ∈ wsX20, w ∈ lw_tbl) w h) (List.all_eq_true.mp (by decide +kernel : wsX20.all goodWord = true) w h)
theorem zinX3 : ∀ w ∈ wsX30, w ∈ zwt := fun w h => zwt_of ((by decide +kernel : ∀ w ∈ wsX30, w ∈ lw_tbl) w h) (List.all_eq_true.mp (by decide +kernel : wsX30.all goodWord = true) w h)
theorem zinX4 : ∀ w ∈ wsX40, w ∈ zwt := fun w h => zwt_of ((by decide +kernel : ∀ w ∈ wsX40, w ∈ lw_tbl) w h) (List.all_eq_true.mp (by decide +kernel : wsX40.all goodWord = true) w h)
theorem zinX5 : ∀ w ∈ wsX50, w ∈ zwt := fun w h => zwt_of ((by decide +kernel : ∀ w ∈ wsX50, w ∈ lw_tbl) w h) (List.all_eq_true.mp (by decide +kernel : wsX50.all goodWord = true) w h)
theorem zinX6 : ∀ w ∈ wsX60, w ∈ zwt := fun w h => zwt_of ((by decide +kernel : ∀ w ∈ wsX60, w ∈ lw_tbl) w h) (List.all_eq_true.mp (by decide +kernel : wsX60.all goodWord = true) w h)
theorem zinX7 : ∀ w ∈ wsX70, w ∈ zwt := fun w h => zwt_of ((by decide +kernel : ∀ w ∈ wsX70, w ∈ lw_tbl) w h) (List.all_eq_true.mp (by decide +kernel : wsX70.all goodWord = true) w h)
abbrev vwCl : List vw_C := [(RX0, TX0, 12), (RX1, TX1, 2), (RX2, TX2, 9), (RX3, TX3, 6), (RX4, TX4, 9), (RX5, TX5, 2), (RX6, TX6, 9), (RX7, TX7, 33)]
