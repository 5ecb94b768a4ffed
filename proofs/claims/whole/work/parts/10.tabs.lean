theorem zt_of {w : Cond} (h : w ∈ tables_1) (g : goodWord w = true) : w ∈ zwt := zwt_of (List.mem_append_right _ h) g
theorem zt0 {w : Cond} {i : Nat} (h : (k2_sels lw_privs)[i]? = some w) (g : goodWord w = true) : w ∈ zwt := zwt_of (List.mem_append_left _ (List.mem_of_getElem? h)) g
theorem zt1 {w : Cond} {i : Nat} (h : tables_1_1[i]? = some w) (g : goodWord w = true) : w ∈ zwt := zt_of (List.mem_append_left _ (List.mem_of_getElem? h)) g
theorem zt2 {w : Cond} {i : Nat} (h : tables_1_2[i]? = some w) (g : goodWord w = true) : w ∈ zwt := zt_of (List.mem_append_right _ (List.mem_append_left _ (List.mem_of_getElem? h))) g
theorem zt3 {w : Cond} {i : Nat} (h : tables_1_3[i]? = some w) (g : goodWord w = true) : w ∈ zwt := zt_of (List.mem_append_right _ (List.mem_append_right _ (List.mem_append_left _ (List.mem_of_getElem? h)))) g
theorem zt4 {w : Cond} {i : Nat} (h : tables_1_4[i]? = some w) (g : goodWord w = true) : w ∈ zwt := zt_of (List.mem_append_right _ (List.mem_append_right _ (List.mem_append_right _ (List.mem_of_getElem? h)))) g
abbrev jJ7_copyOf_59c91 : zM := (yJ7_copyOf_59c91, cJ7_copyOf_59c91, 3, (some (.array .int)))
abbrev jX0_begin : zM := (yX0_begin, cX0_begin, 3, none)
abbrev jX0_beginIllness : zM := (yX0_beginIllness, cX0_beginIllness, 2, none)
abbrev jX0_coins : zM := (yX0_coins, cX0_coins, 3, (some .int))
abbrev jX0_goOver : zM := (yX0_goOver, cX0_goOver, 9, none)
abbrev jX0_goTo : zM := (yX0_goTo, cX0_goTo, 3, none)
abbrev jX0_grantOf : zM := (yX0_grantOf, cX0_grantOf, 4, (some .int))
abbrev jX0_init : zM := (yX0_init, cX0_init, 2, none)
abbrev jX0_natureOf : zM := (yX0_natureOf, cX0_natureOf, 4, (some .int))
abbrev jX0_natureOfNth : zM := (yX0_natureOfNth, cX0_natureOfNth, 1, (some .int))
abbrev jX1_add : zM := (yX1_add, cX1_add, 6, none)
abbrev jX1_init : zM := (yX1_init, cX1_init, 1, none)
abbrev jX1_makeRoom : zM := (yX1_makeRoom, cX1_makeRoom, 3, none)
abbrev jX1_tell : zM := (yX1_tell, cX1_tell, 3, (some .int))
abbrev jX2_arrearsIn : zM := (yX2_arrearsIn, cX2_arrearsIn, 5, (some .int))
abbrev jX2_bookDifferenceIn : zM := (yX2_bookDifferenceIn, cX2_bookDifferenceIn, 2, none)
abbrev jX2_differenceIn : zM := (yX2_differenceIn, cX2_differenceIn, 2, (some .int))
abbrev jX2_differencesUpTo : zM := (yX2_differencesUpTo, cX2_differencesUpTo, 4, (some .int))
abbrev jX2_endWeek : zM := (yX2_endWeek, cX2_endWeek, 2, none)
abbrev jX2_init : zM := (yX2_init, cX2_init, 4, none)
abbrev jX2_isOutIn : zM := (yX2_isOutIn, cX2_isOutIn, 4, (some .boolean))
abbrev jX2_take : zM := (yX2_take, cX2_take, 4, none)
abbrev jX3_init : zM := (yX3_init, cX3_init, 5, none)
abbrev jX3_isKnownIn : zM := (yX3_isKnownIn, cX3_isKnownIn, 2, (some .boolean))
abbrev jX4_add : zM := (yX4_add, cX4_add, 5, none)
abbrev jX4_forgetSupposed : zM := (yX4_forgetSupposed, cX4_forgetSupposed, 1, none)
abbrev jX4_handOn : zM := (yX4_handOn, cX4_handOn, 5, none)
abbrev jX4_inForce : zM := (yX4_inForce, cX4_inForce, 8, (some .int))
abbrev jX4_init : zM := (yX4_init, cX4_init, 1, none)
abbrev jX4_isFull : zM := (yX4_isFull, cX4_isFull, 1, (some .boolean))
abbrev jX4_isKind : zM := (yX4_isKind, cX4_isKind, 1, (some .boolean))
abbrev jX4_isWeek : zM := (yX4_isWeek, cX4_isWeek, 1, (some .boolean))
abbrev jX4_knownIn : zM := (yX4_knownIn, cX4_knownIn, 3, (some .int))
abbrev jX4_look : zM := (yX4_look, cX4_look, 5, none)
abbrev jX4_lookFrom : zM := (yX4_lookFrom, cX4_lookFrom, 3, none)
abbrev jX4_mayBe : zM := (yX4_mayBe, cX4_mayBe, 3, (some .boolean))
abbrev jX4_suppose : zM := (yX4_suppose, cX4_suppose, 5, none)
abbrev jX4_write : zM := (yX4_write, cX4_write, 5, none)
abbrev jX5_change : zM := (yX5_change, cX5_change, 4, (some .boolean))
abbrev jX5_init : zM := (yX5_init, cX5_init, 2, none)
abbrev jX5_livingAt : zM := (yX5_livingAt, cX5_livingAt, 2, (some .int))
abbrev jX5_sumOver : zM := (yX5_sumOver, cX5_sumOver, 9, (some .long))
abbrev jX6_arrears : zM := (yX6_arrears, cX6_arrears, 5, (some .int))
abbrev jX6_back : zM := (yX6_back, cX6_back, 4, (some .boolean))
abbrev jX6_bookDifferences : zM := (yX6_bookDifferences, cX6_bookDifferences, 5, none)
abbrev jX6_booked : zM := (yX6_booked, cX6_booked, 4, (some .int))
abbrev jX6_coinsBooked : zM := (yX6_coinsBooked, cX6_coinsBooked, 3, (some .int))
abbrev jX6_coinsPaid : zM := (yX6_coinsPaid, cX6_coinsPaid, 3, (some .int))
abbrev jX6_count : zM := (yX6_count, cX6_count, 2, (some .int))
abbrev jX6_day : zM := (yX6_day, cX6_day, 5, (some .int))
abbrev jX6_entry : zM := (yX6_entry, cX6_entry, 3, (some .int))
abbrev jX6_force : zM := (yX6_force, cX6_force, 4, (some .int))
abbrev jX6_grant : zM := (yX6_grant, cX6_grant, 5, (some .int))
abbrev jX6_greatestDivisor : zM := (yX6_greatestDivisor, cX6_greatestDivisor, 11, (some .long))
abbrev jX6_init : zM := (yX6_init, cX6_init, 1, none)
abbrev jX6_isPast : zM := (yX6_isPast, cX6_isPast, 2, (some .boolean))
abbrev jX6_join : zM := (yX6_join, cX6_join, 3, (some .int))
abbrev jX6_lastDayOf : zM := (yX6_lastDayOf, cX6_lastDayOf, 1, (some .int))
abbrev jX6_lodge : zM := (yX6_lodge, cX6_lodge, 5, (some .int))
abbrev jX6_member : zM := (yX6_member, cX6_member, 4, (some .int))
abbrev jX6_memberAt : zM := (yX6_memberAt, cX6_memberAt, 2, (some (.object "BreadBox$Member")))
abbrev jX6_membersOut : zM := (yX6_membersOut, cX6_membersOut, 3, (some .int))
abbrev jX6_out : zM := (yX6_out, cX6_out, 5, (some .boolean))
abbrev jX6_paper : zM := (yX6_paper, cX6_paper, 6, (some .int))
abbrev jX6_paperAt : zM := (yX6_paperAt, cX6_paperAt, 2, (some (.object "BreadBox$Paper")))
abbrev jX6_pay : zM := (yX6_pay, cX6_pay, 4, (some .int))
abbrev jX6_rule : zM := (yX6_rule, cX6_rule, 5, (some .int))
abbrev jX6_shareOf : zM := (yX6_shareOf, cX6_shareOf, 3, (some .int))
abbrev jX6_table : zM := (yX6_table, cX6_table, 4, (some .boolean))
abbrev jX6_told : zM := (yX6_told, cX6_told, 4, (some .int))
abbrev jX6_week : zM := (yX6_week, cX6_week, 3, (some .int))
abbrev jX6_what : zM := (yX6_what, cX6_what, 8, (some .int))
abbrev jX6_workAnew : zM := (yX6_workAnew, cX6_workAnew, 4, (some .int))
abbrev jX6_worth : zM := (yX6_worth, cX6_worth, 14, (some .long))
abbrev jX7_arrears : zM := (yX7_arrears, cX7_arrears, 4, (some .int))
abbrev jX7_atFirst : zM := (yX7_atFirst, cX7_atFirst, 1, (some .int))
abbrev jX7_back : zM := (yX7_back, cX7_back, 2, (some .boolean))
abbrev jX7_book : zM := (yX7_book, cX7_book, 4, none)
abbrev jX7_booked : zM := (yX7_booked, cX7_booked, 3, (some .int))
abbrev jX7_bookedFor : zM := (yX7_bookedFor, cX7_bookedFor, 4, (some .int))
abbrev jX7_count : zM := (yX7_count, cX7_count, 5, (some .int))
abbrev jX7_day : zM := (yX7_day, cX7_day, 4, (some .int))
abbrev jX7_entry : zM := (yX7_entry, cX7_entry, 3, (some .int))
abbrev jX7_force : zM := (yX7_force, cX7_force, 4, (some .int))
abbrev jX7_go : zM := (yX7_go, cX7_go, 9, none)
abbrev jX7_grant : zM := (yX7_grant, cX7_grant, 4, (some .int))
abbrev jX7_grantDay : zM := (yX7_grantDay, cX7_grantDay, 9, none)
abbrev jX7_in : zM := (yX7_in, cX7_in, 3, (some .boolean))
abbrev jX7_inForce : zM := (yX7_inForce, cX7_inForce, 8, (some .int))
abbrev jX7_init : zM := (yX7_init, cX7_init, 2, none)
abbrev jX7_isMember : zM := (yX7_isMember, cX7_isMember, 2, (some .boolean))
abbrev jX7_isOut : zM := (yX7_isOut, cX7_isOut, 3, (some .boolean))
abbrev jX7_isRule : zM := (yX7_isRule, cX7_isRule, 3, (some .boolean))
abbrev jX7_isValue : zM := (yX7_isValue, cX7_isValue, 2, (some .boolean))
abbrev jX7_isWeek : zM := (yX7_isWeek, cX7_isWeek, 2, (some .boolean))
abbrev jX7_join : zM := (yX7_join, cX7_join, 3, (some .int))
abbrev jX7_know : zM := (yX7_know, cX7_know, 5, none)
abbrev jX7_livingAt : zM := (yX7_livingAt, cX7_livingAt, 2, (some .int))
abbrev jX7_lodge : zM := (yX7_lodge, cX7_lodge, 5, (some .int))
abbrev jX7_member : zM := (yX7_member, cX7_member, 3, (some .int))
abbrev jX7_out : zM := (yX7_out, cX7_out, 4, (some .boolean))
abbrev jX7_outNow : zM := (yX7_outNow, cX7_outNow, 3, (some .int))
abbrev jX7_owes : zM := (yX7_owes, cX7_owes, 5, (some .int))
abbrev jX7_paidBy : zM := (yX7_paidBy, cX7_paidBy, 4, (some .int))
abbrev jX7_paper : zM := (yX7_paper, cX7_paper, 4, (some .int))
abbrev jX7_pay : zM := (yX7_pay, cX7_pay, 3, (some .int))
abbrev jX7_rule : zM := (yX7_rule, cX7_rule, 4, (some .int))
abbrev jX7_sickAt : zM := (yX7_sickAt, cX7_sickAt, 2, (some .int))
abbrev jX7_table : zM := (yX7_table, cX7_table, 4, (some .boolean))
abbrev jX7_told : zM := (yX7_told, cX7_told, 3, (some .int))
abbrev jX7_value : zM := (yX7_value, cX7_value, 3, (some .int))
abbrev jX7_week : zM := (yX7_week, cX7_week, 5, (some .int))
abbrev jX7_what : zM := (yX7_what, cX7_what, 6, (some .int))
abbrev jX7_worth : zM := (yX7_worth, cX7_worth, 19, (some .long))
abbrev jX7_write : zM := (yX7_write, cX7_write, 4, none)
theorem zw0 : Cond.fieldLink RX0 9 (TX0 1).1 (TX0 1).2.1 (TX0 1).2.2.1 ∈ zwt := zt1 (i := 72) (by decide +kernel) rfl
theorem fX0_9 : zfld RX0 9 0 1 true (.array .int) := ⟨_, _, _, rfl, by decide, zw0, zinX0, rfl, tyX0_ok 1 (by decide), ⟨tyX0, tyX0_ok⟩, nmX0, rfl⟩
theorem zw1 : Cond.fieldLink RX0 15 (TX0 0).1 (TX0 0).2.1 (TX0 0).2.2.1 ∈ zwt := zt1 (i := 71) (by decide +kernel) rfl
theorem fX0_15 : zfld RX0 15 0 0 true (.object "BreadBox$Rules") := ⟨_, _, _, rfl, by decide, zw1, zinX0, rfl, tyX0_ok 0 (by decide), ⟨tyX0, tyX0_ok⟩, nmX0, rfl⟩
theorem zw2 : Cond.fieldLink RX0 27 (TX0 4).1 (TX0 4).2.1 (TX0 4).2.2.1 ∈ zwt := zt1 (i := 75) (by decide +kernel) rfl
theorem fX0_27 : zfld RX0 27 0 4 false (.int) := ⟨_, _, _, rfl, by decide, zw2, zinX0, rfl, tyX0_ok 4 (by decide), ⟨tyX0, tyX0_ok⟩, nmX0, rfl⟩
theorem zw3 : Cond.fieldLink RX0 31 (TX0 5).1 (TX0 5).2.1 (TX0 5).2.2.1 ∈ zwt := zt1 (i := 76) (by decide +kernel) rfl
theorem fX0_31 : zfld RX0 31 0 5 false (.int) := ⟨_, _, _, rfl, by decide, zw3, zinX0, rfl, tyX0_ok 5 (by decide), ⟨tyX0, tyX0_ok⟩, nmX0, rfl⟩
theorem zw4 : Cond.fieldLink RX0 44 (TX2 8).1 (TX2 8).2.1 (TX2 8).2.2.1 ∈ zwt := zt1 (i := 189) (by decide +kernel) rfl
theorem fX0_44 : zfld RX0 44 2 8 false (.object "BreadBox$Paper") := ⟨_, _, _, rfl, by decide, zw4, zinX2, rfl, tyX2_ok 8 (by decide), ⟨tyX2, tyX2_ok⟩, nmX2, rfl⟩
theorem zw5 : Cond.fieldLink RX0 56 (TX3 2).1 (TX3 2).2.1 (TX3 2).2.2.1 ∈ zwt := zt2 (i := 50) (by decide +kernel) rfl
theorem fX0_56 : zfld RX0 56 3 2 true (.int) := ⟨_, _, _, rfl, by decide, zw5, zinX3, rfl, tyX3_ok 2 (by decide), ⟨tyX3, tyX3_ok⟩, nmX3, rfl⟩
theorem zw6 : Cond.fieldLink RX0 59 (TX3 1).1 (TX3 1).2.1 (TX3 1).2.2.1 ∈ zwt := zt2 (i := 47) (by decide +kernel) rfl
theorem fX0_59 : zfld RX0 59 3 1 true (.int) := ⟨_, _, _, rfl, by decide, zw6, zinX3, rfl, tyX3_ok 1 (by decide), ⟨tyX3, tyX3_ok⟩, nmX3, rfl⟩
theorem zw7 : Cond.fieldLink RX0 72 (TX3 5).1 (TX3 5).2.1 (TX3 5).2.2.1 ∈ zwt := zt2 (i := 57) (by decide +kernel) rfl
theorem fX0_72 : zfld RX0 72 3 5 false (.object "BreadBox$Paper") := ⟨_, _, _, rfl, by decide, zw7, zinX3, rfl, tyX3_ok 5 (by decide), ⟨tyX3, tyX3_ok⟩, nmX3, rfl⟩
theorem zw8 : Cond.fieldLink RX0 75 (TX0 2).1 (TX0 2).2.1 (TX0 2).2.2.1 ∈ zwt := zt1 (i := 73) (by decide +kernel) rfl
theorem fX0_75 : zfld RX0 75 0 2 false (.object "BreadBox$Member") := ⟨_, _, _, rfl, by decide, zw8, zinX0, rfl, tyX0_ok 2 (by decide), ⟨tyX0, tyX0_ok⟩, nmX0, rfl⟩
theorem zw9 : Cond.fieldLink RX0 79 (TX0 3).1 (TX0 3).2.1 (TX0 3).2.2.1 ∈ zwt := zt1 (i := 74) (by decide +kernel) rfl
theorem fX0_79 : zfld RX0 79 0 3 false (.int) := ⟨_, _, _, rfl, by decide, zw9, zinX0, rfl, tyX0_ok 3 (by decide), ⟨tyX0, tyX0_ok⟩, nmX0, rfl⟩
theorem zw10 : Cond.fieldLink RX0 82 (TX0 6).1 (TX0 6).2.1 (TX0 6).2.2.1 ∈ zwt := zt1 (i := 77) (by decide +kernel) rfl
theorem fX0_82 : zfld RX0 82 0 6 false (.int) := ⟨_, _, _, rfl, by decide, zw10, zinX0, rfl, tyX0_ok 6 (by decide), ⟨tyX0, tyX0_ok⟩, nmX0, rfl⟩
theorem zw11 : Cond.fieldLink RX0 85 (TX0 10).1 (TX0 10).2.1 (TX0 10).2.2.1 ∈ zwt := zt1 (i := 81) (by decide +kernel) rfl
theorem fX0_85 : zfld RX0 85 0 10 false (.int) := ⟨_, _, _, rfl, by decide, zw11, zinX0, rfl, tyX0_ok 10 (by decide), ⟨tyX0, tyX0_ok⟩, nmX0, rfl⟩
theorem zw12 : Cond.fieldLink RX0 88 (TX4 5).1 (TX4 5).2.1 (TX4 5).2.2.1 ∈ zwt := zt1 (i := 40) (by decide +kernel) rfl
theorem fX0_88 : zfld RX0 88 4 5 true (.array (.array .int)) := ⟨_, _, _, rfl, by decide, zw12, zinX4, rfl, tyX4_ok 5 (by decide), ⟨tyX4, tyX4_ok⟩, nmX4, rfl⟩
theorem zw13 : Cond.fieldLink RX0 101 (TX0 11).1 (TX0 11).2.1 (TX0 11).2.2.1 ∈ zwt := zt1 (i := 82) (by decide +kernel) rfl
theorem fX0_101 : zfld RX0 101 0 11 false (.boolean) := ⟨_, _, _, rfl, by decide, zw13, zinX0, rfl, tyX0_ok 11 (by decide), ⟨tyX0, tyX0_ok⟩, nmX0, rfl⟩
theorem zw14 : Cond.fieldLink RX0 109 (TX0 7).1 (TX0 7).2.1 (TX0 7).2.2.1 ∈ zwt := zt1 (i := 78) (by decide +kernel) rfl
theorem fX0_109 : zfld RX0 109 0 7 false (.int) := ⟨_, _, _, rfl, by decide, zw14, zinX0, rfl, tyX0_ok 7 (by decide), ⟨tyX0, tyX0_ok⟩, nmX0, rfl⟩
theorem zw15 : Cond.fieldLink RX0 112 (TX0 8).1 (TX0 8).2.1 (TX0 8).2.2.1 ∈ zwt := zt1 (i := 79) (by decide +kernel) rfl
theorem fX0_112 : zfld RX0 112 0 8 false (.int) := ⟨_, _, _, rfl, by decide, zw15, zinX0, rfl, tyX0_ok 8 (by decide), ⟨tyX0, tyX0_ok⟩, nmX0, rfl⟩
theorem zw16 : Cond.fieldLink RX0 115 (TX0 9).1 (TX0 9).2.1 (TX0 9).2.2.1 ∈ zwt := zt1 (i := 80) (by decide +kernel) rfl
theorem fX0_115 : zfld RX0 115 0 9 false (.int) := ⟨_, _, _, rfl, by decide, zw16, zinX0, rfl, tyX0_ok 9 (by decide), ⟨tyX0, tyX0_ok⟩, nmX0, rfl⟩
theorem zw17 : Cond.fieldLink RX1 11 (TX1 0).1 (TX1 0).2.1 (TX1 0).2.2.1 ∈ zwt := zt1 (i := 114) (by decide +kernel) rfl
theorem fX1_11 : zfld RX1 11 1 0 false (.array .int) := ⟨_, _, _, rfl, by decide, zw17, zinX1, rfl, tyX1_ok 0 (by decide), ⟨tyX1, tyX1_ok⟩, nmX1, rfl⟩
theorem zw18 : Cond.fieldLink RX1 15 (TX1 1).1 (TX1 1).2.1 (TX1 1).2.2.1 ∈ zwt := zt1 (i := 115) (by decide +kernel) rfl
theorem fX1_15 : zfld RX1 15 1 1 false (.int) := ⟨_, _, _, rfl, by decide, zw18, zinX1, rfl, tyX1_ok 1 (by decide), ⟨tyX1, tyX1_ok⟩, nmX1, rfl⟩
theorem zw19 : Cond.fieldLink RX2 9 (TX2 3).1 (TX2 3).2.1 (TX2 3).2.2.1 ∈ zwt := zt1 (i := 178) (by decide +kernel) rfl
theorem fX2_9 : zfld RX2 9 2 3 true (.array .int) := ⟨_, _, _, rfl, by decide, zw19, zinX2, rfl, tyX2_ok 3 (by decide), ⟨tyX2, tyX2_ok⟩, nmX2, rfl⟩
theorem zw20 : Cond.fieldLink RX2 15 (TX2 4).1 (TX2 4).2.1 (TX2 4).2.2.1 ∈ zwt := zt1 (i := 180) (by decide +kernel) rfl
theorem fX2_15 : zfld RX2 15 2 4 true (.array .int) := ⟨_, _, _, rfl, by decide, zw20, zinX2, rfl, tyX2_ok 4 (by decide), ⟨tyX2, tyX2_ok⟩, nmX2, rfl⟩
theorem zw21 : Cond.fieldLink RX2 18 (TX2 5).1 (TX2 5).2.1 (TX2 5).2.2.1 ∈ zwt := zt1 (i := 182) (by decide +kernel) rfl
theorem fX2_18 : zfld RX2 18 2 5 true (.array .int) := ⟨_, _, _, rfl, by decide, zw21, zinX2, rfl, tyX2_ok 5 (by decide), ⟨tyX2, tyX2_ok⟩, nmX2, rfl⟩
theorem zw22 : Cond.fieldLink RX2 21 (TX2 0).1 (TX2 0).2.1 (TX2 0).2.2.1 ∈ zwt := zt1 (i := 172) (by decide +kernel) rfl
theorem fX2_21 : zfld RX2 21 2 0 true (.int) := ⟨_, _, _, rfl, by decide, zw22, zinX2, rfl, tyX2_ok 0 (by decide), ⟨tyX2, tyX2_ok⟩, nmX2, rfl⟩
theorem zw23 : Cond.fieldLink RX2 25 (TX2 1).1 (TX2 1).2.1 (TX2 1).2.2.1 ∈ zwt := zt1 (i := 174) (by decide +kernel) rfl
theorem fX2_25 : zfld RX2 25 2 1 true (.int) := ⟨_, _, _, rfl, by decide, zw23, zinX2, rfl, tyX2_ok 1 (by decide), ⟨tyX2, tyX2_ok⟩, nmX2, rfl⟩
theorem zw24 : Cond.fieldLink RX2 28 (TX2 2).1 (TX2 2).2.1 (TX2 2).2.2.1 ∈ zwt := zt1 (i := 176) (by decide +kernel) rfl
theorem fX2_28 : zfld RX2 28 2 2 true (.int) := ⟨_, _, _, rfl, by decide, zw24, zinX2, rfl, tyX2_ok 2 (by decide), ⟨tyX2, tyX2_ok⟩, nmX2, rfl⟩
theorem zw25 : Cond.fieldLink RX2 31 (TX2 8).1 (TX2 8).2.1 (TX2 8).2.2.1 ∈ zwt := zt1 (i := 188) (by decide +kernel) rfl
theorem fX2_31 : zfld RX2 31 2 8 false (.object "BreadBox$Paper") := ⟨_, _, _, rfl, by decide, zw25, zinX2, rfl, tyX2_ok 8 (by decide), ⟨tyX2, tyX2_ok⟩, nmX2, rfl⟩
theorem zw26 : Cond.fieldLink RX2 35 (TX3 1).1 (TX3 1).2.1 (TX3 1).2.2.1 ∈ zwt := zt2 (i := 46) (by decide +kernel) rfl
theorem fX2_35 : zfld RX2 35 3 1 true (.int) := ⟨_, _, _, rfl, by decide, zw26, zinX3, rfl, tyX3_ok 1 (by decide), ⟨tyX3, tyX3_ok⟩, nmX3, rfl⟩
theorem zw27 : Cond.fieldLink RX2 40 (TX3 5).1 (TX3 5).2.1 (TX3 5).2.2.1 ∈ zwt := zt2 (i := 56) (by decide +kernel) rfl
theorem fX2_40 : zfld RX2 40 3 5 false (.object "BreadBox$Paper") := ⟨_, _, _, rfl, by decide, zw27, zinX3, rfl, tyX3_ok 5 (by decide), ⟨tyX3, tyX3_ok⟩, nmX3, rfl⟩
theorem zw28 : Cond.fieldLink RX2 43 (TX4 6).1 (TX4 6).2.1 (TX4 6).2.2.1 ∈ zwt := zt1 (i := 42) (by decide +kernel) rfl
theorem fX2_43 : zfld RX2 43 4 6 true (.array .int) := ⟨_, _, _, rfl, by decide, zw28, zinX4, rfl, tyX4_ok 6 (by decide), ⟨tyX4, tyX4_ok⟩, nmX4, rfl⟩
theorem zw29 : Cond.fieldLink RX2 58 (TX4 5).1 (TX4 5).2.1 (TX4 5).2.2.1 ∈ zwt := zt1 (i := 39) (by decide +kernel) rfl
theorem fX2_58 : zfld RX2 58 4 5 true (.array (.array .int)) := ⟨_, _, _, rfl, by decide, zw29, zinX4, rfl, tyX4_ok 5 (by decide), ⟨tyX4, tyX4_ok⟩, nmX4, rfl⟩
theorem zw30 : Cond.fieldLink RX2 66 (TX2 6).1 (TX2 6).2.1 (TX2 6).2.2.1 ∈ zwt := zt1 (i := 184) (by decide +kernel) rfl
theorem fX2_66 : zfld RX2 66 2 6 false (.int) := ⟨_, _, _, rfl, by decide, zw30, zinX2, rfl, tyX2_ok 6 (by decide), ⟨tyX2, tyX2_ok⟩, nmX2, rfl⟩
theorem zw31 : Cond.fieldLink RX2 69 (TX2 7).1 (TX2 7).2.1 (TX2 7).2.2.1 ∈ zwt := zt1 (i := 187) (by decide +kernel) rfl
theorem fX2_69 : zfld RX2 69 2 7 false (.boolean) := ⟨_, _, _, rfl, by decide, zw31, zinX2, rfl, tyX2_ok 7 (by decide), ⟨tyX2, tyX2_ok⟩, nmX2, rfl⟩
theorem zw32 : Cond.fieldLink RX3 9 (TX3 4).1 (TX3 4).2.1 (TX3 4).2.2.1 ∈ zwt := zt2 (i := 54) (by decide +kernel) rfl
theorem fX3_9 : zfld RX3 9 3 4 false (.int) := ⟨_, _, _, rfl, by decide, zw32, zinX3, rfl, tyX3_ok 4 (by decide), ⟨tyX3, tyX3_ok⟩, nmX3, rfl⟩
theorem zw33 : Cond.fieldLink RX3 15 (TX3 0).1 (TX3 0).2.1 (TX3 0).2.2.1 ∈ zwt := zt2 (i := 43) (by decide +kernel) rfl
theorem fX3_15 : zfld RX3 15 3 0 true (.int) := ⟨_, _, _, rfl, by decide, zw33, zinX3, rfl, tyX3_ok 0 (by decide), ⟨tyX3, tyX3_ok⟩, nmX3, rfl⟩
theorem zw34 : Cond.fieldLink RX3 18 (TX3 1).1 (TX3 1).2.1 (TX3 1).2.2.1 ∈ zwt := zt2 (i := 45) (by decide +kernel) rfl
theorem fX3_18 : zfld RX3 18 3 1 true (.int) := ⟨_, _, _, rfl, by decide, zw34, zinX3, rfl, tyX3_ok 1 (by decide), ⟨tyX3, tyX3_ok⟩, nmX3, rfl⟩
theorem zw35 : Cond.fieldLink RX3 21 (TX3 2).1 (TX3 2).2.1 (TX3 2).2.2.1 ∈ zwt := zt2 (i := 49) (by decide +kernel) rfl
theorem fX3_21 : zfld RX3 21 3 2 true (.int) := ⟨_, _, _, rfl, by decide, zw35, zinX3, rfl, tyX3_ok 2 (by decide), ⟨tyX3, tyX3_ok⟩, nmX3, rfl⟩
theorem zw36 : Cond.fieldLink RX3 24 (TX3 3).1 (TX3 3).2.1 (TX3 3).2.2.1 ∈ zwt := zt2 (i := 52) (by decide +kernel) rfl
theorem fX3_24 : zfld RX3 24 3 3 true (.int) := ⟨_, _, _, rfl, by decide, zw36, zinX3, rfl, tyX3_ok 3 (by decide), ⟨tyX3, tyX3_ok⟩, nmX3, rfl⟩
theorem zw37 : Cond.fieldLink RX4 11 (TX4 0).1 (TX4 0).2.1 (TX4 0).2.2.1 ∈ zwt := zt1 (i := 32) (by decide +kernel) rfl
theorem fX4_11 : zfld RX4 11 4 0 true (.array .int) := ⟨_, _, _, rfl, by decide, zw37, zinX4, rfl, tyX4_ok 0 (by decide), ⟨tyX4, tyX4_ok⟩, nmX4, rfl⟩
theorem zw38 : Cond.fieldLink RX4 15 (TX4 1).1 (TX4 1).2.1 (TX4 1).2.2.1 ∈ zwt := zt1 (i := 33) (by decide +kernel) rfl
theorem fX4_15 : zfld RX4 15 4 1 true (.array .int) := ⟨_, _, _, rfl, by decide, zw38, zinX4, rfl, tyX4_ok 1 (by decide), ⟨tyX4, tyX4_ok⟩, nmX4, rfl⟩
theorem zw39 : Cond.fieldLink RX4 18 (TX4 2).1 (TX4 2).2.1 (TX4 2).2.2.1 ∈ zwt := zt1 (i := 34) (by decide +kernel) rfl
theorem fX4_18 : zfld RX4 18 4 2 true (.array .int) := ⟨_, _, _, rfl, by decide, zw39, zinX4, rfl, tyX4_ok 2 (by decide), ⟨tyX4, tyX4_ok⟩, nmX4, rfl⟩
theorem zw40 : Cond.fieldLink RX4 21 (TX4 3).1 (TX4 3).2.1 (TX4 3).2.2.1 ∈ zwt := zt1 (i := 35) (by decide +kernel) rfl
theorem fX4_21 : zfld RX4 21 4 3 true (.array .int) := ⟨_, _, _, rfl, by decide, zw40, zinX4, rfl, tyX4_ok 3 (by decide), ⟨tyX4, tyX4_ok⟩, nmX4, rfl⟩
theorem zw41 : Cond.fieldLink RX4 26 (TX4 5).1 (TX4 5).2.1 (TX4 5).2.2.1 ∈ zwt := zt1 (i := 38) (by decide +kernel) rfl
theorem fX4_26 : zfld RX4 26 4 5 true (.array (.array .int)) := ⟨_, _, _, rfl, by decide, zw41, zinX4, rfl, tyX4_ok 5 (by decide), ⟨tyX4, tyX4_ok⟩, nmX4, rfl⟩
theorem zw42 : Cond.fieldLink RX4 29 (TX4 6).1 (TX4 6).2.1 (TX4 6).2.2.1 ∈ zwt := zt1 (i := 41) (by decide +kernel) rfl
theorem fX4_29 : zfld RX4 29 4 6 true (.array .int) := ⟨_, _, _, rfl, by decide, zw42, zinX4, rfl, tyX4_ok 6 (by decide), ⟨tyX4, tyX4_ok⟩, nmX4, rfl⟩
theorem zw43 : Cond.fieldLink RX4 32 (TX4 7).1 (TX4 7).2.1 (TX4 7).2.2.1 ∈ zwt := zt1 (i := 43) (by decide +kernel) rfl
theorem fX4_32 : zfld RX4 32 4 7 false (.int) := ⟨_, _, _, rfl, by decide, zw43, zinX4, rfl, tyX4_ok 7 (by decide), ⟨tyX4, tyX4_ok⟩, nmX4, rfl⟩
theorem zw44 : Cond.fieldLink RX4 36 (TX4 8).1 (TX4 8).2.1 (TX4 8).2.2.1 ∈ zwt := zt1 (i := 44) (by decide +kernel) rfl
theorem fX4_36 : zfld RX4 36 4 8 false (.int) := ⟨_, _, _, rfl, by decide, zw44, zinX4, rfl, tyX4_ok 8 (by decide), ⟨tyX4, tyX4_ok⟩, nmX4, rfl⟩
theorem zw45 : Cond.fieldLink RX4 52 (TX4 4).1 (TX4 4).2.1 (TX4 4).2.2.1 ∈ zwt := zt1 (i := 37) (by decide +kernel) rfl
theorem fX4_52 : zfld RX4 52 4 4 false (.int) := ⟨_, _, _, rfl, by decide, zw45, zinX4, rfl, tyX4_ok 4 (by decide), ⟨tyX4, tyX4_ok⟩, nmX4, rfl⟩
theorem zw46 : Cond.fieldLink RX5 9 (TX5 0).1 (TX5 0).2.1 (TX5 0).2.2.1 ∈ zwt := zt1 (i := 128) (by decide +kernel) rfl
theorem fX5_9 : zfld RX5 9 5 0 true (.array .int) := ⟨_, _, _, rfl, by decide, zw46, zinX5, rfl, tyX5_ok 0 (by decide), ⟨tyX5, tyX5_ok⟩, nmX5, rfl⟩
theorem zw47 : Cond.fieldLink RX5 13 (TX5 1).1 (TX5 1).2.1 (TX5 1).2.2.1 ∈ zwt := zt1 (i := 129) (by decide +kernel) rfl
theorem fX5_13 : zfld RX5 13 5 1 true (.array .int) := ⟨_, _, _, rfl, by decide, zw47, zinX5, rfl, tyX5_ok 1 (by decide), ⟨tyX5, tyX5_ok⟩, nmX5, rfl⟩
theorem zw48 : Cond.fieldLink RX6 11 (TX6 0).1 (TX6 0).2.1 (TX6 0).2.2.1 ∈ zwt := zt1 (i := 135) (by decide +kernel) rfl
theorem fX6_11 : zfld RX6 11 6 0 true (.array (.object "BreadBox$Member")) := ⟨_, _, _, rfl, by decide, zw48, zinX6, rfl, tyX6_ok 0 (by decide), ⟨tyX6, tyX6_ok⟩, nmX6, rfl⟩
theorem zw49 : Cond.fieldLink RX6 17 (TX6 1).1 (TX6 1).2.1 (TX6 1).2.2.1 ∈ zwt := zt1 (i := 136) (by decide +kernel) rfl
theorem fX6_17 : zfld RX6 17 6 1 true (.array (.object "BreadBox$Paper")) := ⟨_, _, _, rfl, by decide, zw49, zinX6, rfl, tyX6_ok 1 (by decide), ⟨tyX6, tyX6_ok⟩, nmX6, rfl⟩
theorem zw50 : Cond.fieldLink RX6 24 (TX6 2).1 (TX6 2).2.1 (TX6 2).2.2.1 ∈ zwt := zt1 (i := 137) (by decide +kernel) rfl
theorem fX6_24 : zfld RX6 24 6 2 true (.object "BreadBox$Rules") := ⟨_, _, _, rfl, by decide, zw50, zinX6, rfl, tyX6_ok 2 (by decide), ⟨tyX6, tyX6_ok⟩, nmX6, rfl⟩
theorem zw51 : Cond.fieldLink RX6 33 (TX6 3).1 (TX6 3).2.1 (TX6 3).2.2.1 ∈ zwt := zt1 (i := 138) (by decide +kernel) rfl
theorem fX6_33 : zfld RX6 33 6 3 true (.object "BreadBox$Course") := ⟨_, _, _, rfl, by decide, zw51, zinX6, rfl, tyX6_ok 3 (by decide), ⟨tyX6, tyX6_ok⟩, nmX6, rfl⟩
theorem zw52 : Cond.fieldLink RX6 40 (TX6 4).1 (TX6 4).2.1 (TX6 4).2.2.1 ∈ zwt := zt1 (i := 139) (by decide +kernel) rfl
theorem fX6_40 : zfld RX6 40 6 4 true (.object "BreadBox$Ledger") := ⟨_, _, _, rfl, by decide, zw52, zinX6, rfl, tyX6_ok 4 (by decide), ⟨tyX6, tyX6_ok⟩, nmX6, rfl⟩
theorem zw53 : Cond.fieldLink RX6 47 (TX6 5).1 (TX6 5).2.1 (TX6 5).2.2.1 ∈ zwt := zt1 (i := 140) (by decide +kernel) rfl
theorem fX6_47 : zfld RX6 47 6 5 true (.object "BreadBox$Tables") := ⟨_, _, _, rfl, by decide, zw53, zinX6, rfl, tyX6_ok 5 (by decide), ⟨tyX6, tyX6_ok⟩, nmX6, rfl⟩
theorem zw54 : Cond.fieldLink RX6 51 (TX6 6).1 (TX6 6).2.1 (TX6 6).2.2.1 ∈ zwt := zt1 (i := 141) (by decide +kernel) rfl
theorem fX6_51 : zfld RX6 51 6 6 false (.int) := ⟨_, _, _, rfl, by decide, zw54, zinX6, rfl, tyX6_ok 6 (by decide), ⟨tyX6, tyX6_ok⟩, nmX6, rfl⟩
theorem zw55 : Cond.fieldLink RX6 55 (TX6 8).1 (TX6 8).2.1 (TX6 8).2.2.1 ∈ zwt := zt1 (i := 143) (by decide +kernel) rfl
theorem fX6_55 : zfld RX6 55 6 8 false (.int) := ⟨_, _, _, rfl, by decide, zw55, zinX6, rfl, tyX6_ok 8 (by decide), ⟨tyX6, tyX6_ok⟩, nmX6, rfl⟩
theorem zw56 : Cond.fieldLink RX6 66 (TX2 3).1 (TX2 3).2.1 (TX2 3).2.2.1 ∈ zwt := zt1 (i := 179) (by decide +kernel) rfl
theorem fX6_66 : zfld RX6 66 2 3 true (.array .int) := ⟨_, _, _, rfl, by decide, zw56, zinX2, rfl, tyX2_ok 3 (by decide), ⟨tyX2, tyX2_ok⟩, nmX2, rfl⟩
theorem zw57 : Cond.fieldLink RX6 90 (TX2 7).1 (TX2 7).2.1 (TX2 7).2.2.1 ∈ zwt := zt1 (i := 186) (by decide +kernel) rfl
theorem fX6_90 : zfld RX6 90 2 7 false (.boolean) := ⟨_, _, _, rfl, by decide, zw57, zinX2, rfl, tyX2_ok 7 (by decide), ⟨tyX2, tyX2_ok⟩, nmX2, rfl⟩
theorem zw58 : Cond.fieldLink RX6 94 (TX4 4).1 (TX4 4).2.1 (TX4 4).2.2.1 ∈ zwt := zt1 (i := 36) (by decide +kernel) rfl
theorem fX6_94 : zfld RX6 94 4 4 false (.int) := ⟨_, _, _, rfl, by decide, zw58, zinX4, rfl, tyX4_ok 4 (by decide), ⟨tyX4, tyX4_ok⟩, nmX4, rfl⟩
theorem zw59 : Cond.fieldLink RX6 97 (TX6 7).1 (TX6 7).2.1 (TX6 7).2.2.1 ∈ zwt := zt1 (i := 142) (by decide +kernel) rfl
theorem fX6_97 : zfld RX6 97 6 7 false (.int) := ⟨_, _, _, rfl, by decide, zw59, zinX6, rfl, tyX6_ok 7 (by decide), ⟨tyX6, tyX6_ok⟩, nmX6, rfl⟩
theorem zw60 : Cond.fieldLink RX6 100 (TX2 2).1 (TX2 2).2.1 (TX2 2).2.2.1 ∈ zwt := zt1 (i := 177) (by decide +kernel) rfl
theorem fX6_100 : zfld RX6 100 2 2 true (.int) := ⟨_, _, _, rfl, by decide, zw60, zinX2, rfl, tyX2_ok 2 (by decide), ⟨tyX2, tyX2_ok⟩, nmX2, rfl⟩
theorem zw61 : Cond.fieldLink RX6 117 (TX3 4).1 (TX3 4).2.1 (TX3 4).2.2.1 ∈ zwt := zt2 (i := 55) (by decide +kernel) rfl
theorem fX6_117 : zfld RX6 117 3 4 false (.int) := ⟨_, _, _, rfl, by decide, zw61, zinX3, rfl, tyX3_ok 4 (by decide), ⟨tyX3, tyX3_ok⟩, nmX3, rfl⟩
theorem zw62 : Cond.fieldLink RX6 120 (TX3 0).1 (TX3 0).2.1 (TX3 0).2.2.1 ∈ zwt := zt2 (i := 44) (by decide +kernel) rfl
theorem fX6_120 : zfld RX6 120 3 0 true (.int) := ⟨_, _, _, rfl, by decide, zw62, zinX3, rfl, tyX3_ok 0 (by decide), ⟨tyX3, tyX3_ok⟩, nmX3, rfl⟩
theorem zw63 : Cond.fieldLink RX6 127 (TX1 1).1 (TX1 1).2.1 (TX1 1).2.2.1 ∈ zwt := zt1 (i := 116) (by decide +kernel) rfl
theorem fX6_127 : zfld RX6 127 1 1 false (.int) := ⟨_, _, _, rfl, by decide, zw63, zinX1, rfl, tyX1_ok 1 (by decide), ⟨tyX1, tyX1_ok⟩, nmX1, rfl⟩
theorem zw64 : Cond.fieldLink RX6 169 (TX2 4).1 (TX2 4).2.1 (TX2 4).2.2.1 ∈ zwt := zt1 (i := 181) (by decide +kernel) rfl
theorem fX6_169 : zfld RX6 169 2 4 true (.array .int) := ⟨_, _, _, rfl, by decide, zw64, zinX2, rfl, tyX2_ok 4 (by decide), ⟨tyX2, tyX2_ok⟩, nmX2, rfl⟩
theorem zw65 : Cond.fieldLink RX6 178 (TX2 0).1 (TX2 0).2.1 (TX2 0).2.2.1 ∈ zwt := zt1 (i := 173) (by decide +kernel) rfl
theorem fX6_178 : zfld RX6 178 2 0 true (.int) := ⟨_, _, _, rfl, by decide, zw65, zinX2, rfl, tyX2_ok 0 (by decide), ⟨tyX2, tyX2_ok⟩, nmX2, rfl⟩
theorem zw66 : Cond.fieldLink RX6 198 (TX2 1).1 (TX2 1).2.1 (TX2 1).2.2.1 ∈ zwt := zt1 (i := 175) (by decide +kernel) rfl
theorem fX6_198 : zfld RX6 198 2 1 true (.int) := ⟨_, _, _, rfl, by decide, zw66, zinX2, rfl, tyX2_ok 1 (by decide), ⟨tyX2, tyX2_ok⟩, nmX2, rfl⟩
theorem zw67 : Cond.fieldLink RX6 205 (TX3 1).1 (TX3 1).2.1 (TX3 1).2.2.1 ∈ zwt := zt2 (i := 48) (by decide +kernel) rfl
theorem fX6_205 : zfld RX6 205 3 1 true (.int) := ⟨_, _, _, rfl, by decide, zw67, zinX3, rfl, tyX3_ok 1 (by decide), ⟨tyX3, tyX3_ok⟩, nmX3, rfl⟩
theorem zw68 : Cond.fieldLink RX6 208 (TX3 2).1 (TX3 2).2.1 (TX3 2).2.2.1 ∈ zwt := zt2 (i := 51) (by decide +kernel) rfl
theorem fX6_208 : zfld RX6 208 3 2 true (.int) := ⟨_, _, _, rfl, by decide, zw68, zinX3, rfl, tyX3_ok 2 (by decide), ⟨tyX3, tyX3_ok⟩, nmX3, rfl⟩
theorem zw69 : Cond.fieldLink RX6 211 (TX3 3).1 (TX3 3).2.1 (TX3 3).2.2.1 ∈ zwt := zt2 (i := 53) (by decide +kernel) rfl
theorem fX6_211 : zfld RX6 211 3 3 true (.int) := ⟨_, _, _, rfl, by decide, zw69, zinX3, rfl, tyX3_ok 3 (by decide), ⟨tyX3, tyX3_ok⟩, nmX3, rfl⟩
theorem zw70 : Cond.fieldLink RX6 223 (TX2 6).1 (TX2 6).2.1 (TX2 6).2.2.1 ∈ zwt := zt1 (i := 185) (by decide +kernel) rfl
theorem fX6_223 : zfld RX6 223 2 6 false (.int) := ⟨_, _, _, rfl, by decide, zw70, zinX2, rfl, tyX2_ok 6 (by decide), ⟨tyX2, tyX2_ok⟩, nmX2, rfl⟩
theorem zw71 : Cond.fieldLink RX6 226 (TX2 5).1 (TX2 5).2.1 (TX2 5).2.2.1 ∈ zwt := zt1 (i := 183) (by decide +kernel) rfl
theorem fX6_226 : zfld RX6 226 2 5 true (.array .int) := ⟨_, _, _, rfl, by decide, zw71, zinX2, rfl, tyX2_ok 5 (by decide), ⟨tyX2, tyX2_ok⟩, nmX2, rfl⟩
theorem zw72 : Cond.fieldLink RX7 9 (TX7 5).1 (TX7 5).2.1 (TX7 5).2.2.1 ∈ zwt := zt3 (i := 75) (by decide +kernel) rfl
theorem fX7_9 : zfld RX7 9 7 5 true (.array .int) := ⟨_, _, _, rfl, by decide, zw72, zinX7, rfl, tyX7_ok 5 (by decide), ⟨tyX7, tyX7_ok⟩, nmX7, rfl⟩
theorem zw73 : Cond.fieldLink RX7 13 (TX7 6).1 (TX7 6).2.1 (TX7 6).2.2.1 ∈ zwt := zt3 (i := 76) (by decide +kernel) rfl
theorem fX7_13 : zfld RX7 13 7 6 true (.array .int) := ⟨_, _, _, rfl, by decide, zw73, zinX7, rfl, tyX7_ok 6 (by decide), ⟨tyX7, tyX7_ok⟩, nmX7, rfl⟩
theorem zw74 : Cond.fieldLink RX7 16 (TX7 7).1 (TX7 7).2.1 (TX7 7).2.2.1 ∈ zwt := zt3 (i := 77) (by decide +kernel) rfl
theorem fX7_16 : zfld RX7 16 7 7 true (.array .int) := ⟨_, _, _, rfl, by decide, zw74, zinX7, rfl, tyX7_ok 7 (by decide), ⟨tyX7, tyX7_ok⟩, nmX7, rfl⟩
theorem zw75 : Cond.fieldLink RX7 19 (TX7 8).1 (TX7 8).2.1 (TX7 8).2.2.1 ∈ zwt := zt3 (i := 78) (by decide +kernel) rfl
theorem fX7_19 : zfld RX7 19 7 8 true (.array .int) := ⟨_, _, _, rfl, by decide, zw75, zinX7, rfl, tyX7_ok 8 (by decide), ⟨tyX7, tyX7_ok⟩, nmX7, rfl⟩
theorem zw76 : Cond.fieldLink RX7 22 (TX7 9).1 (TX7 9).2.1 (TX7 9).2.2.1 ∈ zwt := zt3 (i := 79) (by decide +kernel) rfl
theorem fX7_22 : zfld RX7 22 7 9 true (.array .int) := ⟨_, _, _, rfl, by decide, zw76, zinX7, rfl, tyX7_ok 9 (by decide), ⟨tyX7, tyX7_ok⟩, nmX7, rfl⟩
theorem zw77 : Cond.fieldLink RX7 25 (TX7 10).1 (TX7 10).2.1 (TX7 10).2.2.1 ∈ zwt := zt3 (i := 80) (by decide +kernel) rfl
theorem fX7_25 : zfld RX7 25 7 10 true (.array .int) := ⟨_, _, _, rfl, by decide, zw77, zinX7, rfl, tyX7_ok 10 (by decide), ⟨tyX7, tyX7_ok⟩, nmX7, rfl⟩
theorem zw78 : Cond.fieldLink RX7 28 (TX7 11).1 (TX7 11).2.1 (TX7 11).2.2.1 ∈ zwt := zt3 (i := 81) (by decide +kernel) rfl
theorem fX7_28 : zfld RX7 28 7 11 true (.array .int) := ⟨_, _, _, rfl, by decide, zw78, zinX7, rfl, tyX7_ok 11 (by decide), ⟨tyX7, tyX7_ok⟩, nmX7, rfl⟩
theorem zw79 : Cond.fieldLink RX7 31 (TX7 12).1 (TX7 12).2.1 (TX7 12).2.2.1 ∈ zwt := zt3 (i := 82) (by decide +kernel) rfl
theorem fX7_31 : zfld RX7 31 7 12 true (.array .int) := ⟨_, _, _, rfl, by decide, zw79, zinX7, rfl, tyX7_ok 12 (by decide), ⟨tyX7, tyX7_ok⟩, nmX7, rfl⟩
theorem zw80 : Cond.fieldLink RX7 34 (TX7 13).1 (TX7 13).2.1 (TX7 13).2.2.1 ∈ zwt := zt3 (i := 83) (by decide +kernel) rfl
theorem fX7_34 : zfld RX7 34 7 13 true (.array .int) := ⟨_, _, _, rfl, by decide, zw80, zinX7, rfl, tyX7_ok 13 (by decide), ⟨tyX7, tyX7_ok⟩, nmX7, rfl⟩
theorem zw81 : Cond.fieldLink RX7 37 (TX7 14).1 (TX7 14).2.1 (TX7 14).2.2.1 ∈ zwt := zt3 (i := 84) (by decide +kernel) rfl
theorem fX7_37 : zfld RX7 37 7 14 true (.array .int) := ⟨_, _, _, rfl, by decide, zw81, zinX7, rfl, tyX7_ok 14 (by decide), ⟨tyX7, tyX7_ok⟩, nmX7, rfl⟩
theorem zw82 : Cond.fieldLink RX7 40 (TX7 15).1 (TX7 15).2.1 (TX7 15).2.2.1 ∈ zwt := zt3 (i := 85) (by decide +kernel) rfl
theorem fX7_40 : zfld RX7 40 7 15 true (.array .int) := ⟨_, _, _, rfl, by decide, zw82, zinX7, rfl, tyX7_ok 15 (by decide), ⟨tyX7, tyX7_ok⟩, nmX7, rfl⟩
theorem zw83 : Cond.fieldLink RX7 43 (TX7 16).1 (TX7 16).2.1 (TX7 16).2.2.1 ∈ zwt := zt3 (i := 86) (by decide +kernel) rfl
theorem fX7_43 : zfld RX7 43 7 16 true (.array .int) := ⟨_, _, _, rfl, by decide, zw83, zinX7, rfl, tyX7_ok 16 (by decide), ⟨tyX7, tyX7_ok⟩, nmX7, rfl⟩
theorem zw84 : Cond.fieldLink RX7 46 (TX7 17).1 (TX7 17).2.1 (TX7 17).2.2.1 ∈ zwt := zt3 (i := 87) (by decide +kernel) rfl
theorem fX7_46 : zfld RX7 46 7 17 true (.array .int) := ⟨_, _, _, rfl, by decide, zw84, zinX7, rfl, tyX7_ok 17 (by decide), ⟨tyX7, tyX7_ok⟩, nmX7, rfl⟩
theorem zw85 : Cond.fieldLink RX7 49 (TX7 18).1 (TX7 18).2.1 (TX7 18).2.2.1 ∈ zwt := zt3 (i := 88) (by decide +kernel) rfl
theorem fX7_49 : zfld RX7 49 7 18 true (.array .int) := ⟨_, _, _, rfl, by decide, zw85, zinX7, rfl, tyX7_ok 18 (by decide), ⟨tyX7, tyX7_ok⟩, nmX7, rfl⟩
theorem zw86 : Cond.fieldLink RX7 52 (TX7 19).1 (TX7 19).2.1 (TX7 19).2.2.1 ∈ zwt := zt3 (i := 89) (by decide +kernel) rfl
theorem fX7_52 : zfld RX7 52 7 19 true (.array .int) := ⟨_, _, _, rfl, by decide, zw86, zinX7, rfl, tyX7_ok 19 (by decide), ⟨tyX7, tyX7_ok⟩, nmX7, rfl⟩
theorem zw87 : Cond.fieldLink RX7 55 (TX7 20).1 (TX7 20).2.1 (TX7 20).2.2.1 ∈ zwt := zt3 (i := 90) (by decide +kernel) rfl
theorem fX7_55 : zfld RX7 55 7 20 true (.array .int) := ⟨_, _, _, rfl, by decide, zw87, zinX7, rfl, tyX7_ok 20 (by decide), ⟨tyX7, tyX7_ok⟩, nmX7, rfl⟩
theorem zw88 : Cond.fieldLink RX7 58 (TX7 21).1 (TX7 21).2.1 (TX7 21).2.2.1 ∈ zwt := zt3 (i := 91) (by decide +kernel) rfl
theorem fX7_58 : zfld RX7 58 7 21 true (.array .int) := ⟨_, _, _, rfl, by decide, zw88, zinX7, rfl, tyX7_ok 21 (by decide), ⟨tyX7, tyX7_ok⟩, nmX7, rfl⟩
theorem zw89 : Cond.fieldLink RX7 61 (TX7 22).1 (TX7 22).2.1 (TX7 22).2.2.1 ∈ zwt := zt3 (i := 92) (by decide +kernel) rfl
theorem fX7_61 : zfld RX7 61 7 22 true (.array .int) := ⟨_, _, _, rfl, by decide, zw89, zinX7, rfl, tyX7_ok 22 (by decide), ⟨tyX7, tyX7_ok⟩, nmX7, rfl⟩
theorem zw90 : Cond.fieldLink RX7 64 (TX7 23).1 (TX7 23).2.1 (TX7 23).2.2.1 ∈ zwt := zt3 (i := 93) (by decide +kernel) rfl
theorem fX7_64 : zfld RX7 64 7 23 true (.array .int) := ⟨_, _, _, rfl, by decide, zw90, zinX7, rfl, tyX7_ok 23 (by decide), ⟨tyX7, tyX7_ok⟩, nmX7, rfl⟩
theorem zw91 : Cond.fieldLink RX7 67 (TX7 24).1 (TX7 24).2.1 (TX7 24).2.2.1 ∈ zwt := zt3 (i := 94) (by decide +kernel) rfl
theorem fX7_67 : zfld RX7 67 7 24 true (.array .int) := ⟨_, _, _, rfl, by decide, zw91, zinX7, rfl, tyX7_ok 24 (by decide), ⟨tyX7, tyX7_ok⟩, nmX7, rfl⟩
theorem zw92 : Cond.fieldLink RX7 70 (TX7 25).1 (TX7 25).2.1 (TX7 25).2.2.1 ∈ zwt := zt3 (i := 95) (by decide +kernel) rfl
theorem fX7_70 : zfld RX7 70 7 25 true (.array .int) := ⟨_, _, _, rfl, by decide, zw92, zinX7, rfl, tyX7_ok 25 (by decide), ⟨tyX7, tyX7_ok⟩, nmX7, rfl⟩
theorem zw93 : Cond.fieldLink RX7 73 (TX7 27).1 (TX7 27).2.1 (TX7 27).2.2.1 ∈ zwt := zt3 (i := 97) (by decide +kernel) rfl
theorem fX7_73 : zfld RX7 73 7 27 true (.array .int) := ⟨_, _, _, rfl, by decide, zw93, zinX7, rfl, tyX7_ok 27 (by decide), ⟨tyX7, tyX7_ok⟩, nmX7, rfl⟩
theorem zw94 : Cond.fieldLink RX7 76 (TX7 28).1 (TX7 28).2.1 (TX7 28).2.2.1 ∈ zwt := zt3 (i := 98) (by decide +kernel) rfl
theorem fX7_76 : zfld RX7 76 7 28 true (.array .int) := ⟨_, _, _, rfl, by decide, zw94, zinX7, rfl, tyX7_ok 28 (by decide), ⟨tyX7, tyX7_ok⟩, nmX7, rfl⟩
theorem zw95 : Cond.fieldLink RX7 79 (TX7 29).1 (TX7 29).2.1 (TX7 29).2.2.1 ∈ zwt := zt3 (i := 99) (by decide +kernel) rfl
theorem fX7_79 : zfld RX7 79 7 29 true (.array .boolean) := ⟨_, _, _, rfl, by decide, zw95, zinX7, rfl, tyX7_ok 29 (by decide), ⟨tyX7, tyX7_ok⟩, nmX7, rfl⟩
theorem zw96 : Cond.fieldLink RX7 83 (TX7 30).1 (TX7 30).2.1 (TX7 30).2.2.1 ∈ zwt := zt3 (i := 100) (by decide +kernel) rfl
theorem fX7_83 : zfld RX7 83 7 30 true (.array .boolean) := ⟨_, _, _, rfl, by decide, zw96, zinX7, rfl, tyX7_ok 30 (by decide), ⟨tyX7, tyX7_ok⟩, nmX7, rfl⟩
theorem zw97 : Cond.fieldLink RX7 86 (TX7 31).1 (TX7 31).2.1 (TX7 31).2.2.1 ∈ zwt := zt3 (i := 101) (by decide +kernel) rfl
theorem fX7_86 : zfld RX7 86 7 31 true (.array .int) := ⟨_, _, _, rfl, by decide, zw97, zinX7, rfl, tyX7_ok 31 (by decide), ⟨tyX7, tyX7_ok⟩, nmX7, rfl⟩
theorem zw98 : Cond.fieldLink RX7 89 (TX7 32).1 (TX7 32).2.1 (TX7 32).2.2.1 ∈ zwt := zt3 (i := 102) (by decide +kernel) rfl
theorem fX7_89 : zfld RX7 89 7 32 true (.array .int) := ⟨_, _, _, rfl, by decide, zw98, zinX7, rfl, tyX7_ok 32 (by decide), ⟨tyX7, tyX7_ok⟩, nmX7, rfl⟩
theorem zw99 : Cond.fieldLink RX7 92 (TX7 1).1 (TX7 1).2.1 (TX7 1).2.2.1 ∈ zwt := zt3 (i := 71) (by decide +kernel) rfl
theorem fX7_92 : zfld RX7 92 7 1 false (.int) := ⟨_, _, _, rfl, by decide, zw99, zinX7, rfl, tyX7_ok 1 (by decide), ⟨tyX7, tyX7_ok⟩, nmX7, rfl⟩
theorem zw100 : Cond.fieldLink RX7 100 (TX7 0).1 (TX7 0).2.1 (TX7 0).2.2.1 ∈ zwt := zt3 (i := 70) (by decide +kernel) rfl
theorem fX7_100 : zfld RX7 100 7 0 false (.int) := ⟨_, _, _, rfl, by decide, zw100, zinX7, rfl, tyX7_ok 0 (by decide), ⟨tyX7, tyX7_ok⟩, nmX7, rfl⟩
theorem zw101 : Cond.fieldLink RX7 107 (TX7 26).1 (TX7 26).2.1 (TX7 26).2.2.1 ∈ zwt := zt3 (i := 96) (by decide +kernel) rfl
theorem fX7_107 : zfld RX7 107 7 26 false (.int) := ⟨_, _, _, rfl, by decide, zw101, zinX7, rfl, tyX7_ok 26 (by decide), ⟨tyX7, tyX7_ok⟩, nmX7, rfl⟩
theorem zw102 : Cond.fieldLink RX7 121 (TX7 3).1 (TX7 3).2.1 (TX7 3).2.2.1 ∈ zwt := zt3 (i := 73) (by decide +kernel) rfl
theorem fX7_121 : zfld RX7 121 7 3 false (.int) := ⟨_, _, _, rfl, by decide, zw102, zinX7, rfl, tyX7_ok 3 (by decide), ⟨tyX7, tyX7_ok⟩, nmX7, rfl⟩
theorem zw103 : Cond.fieldLink RX7 137 (TX7 2).1 (TX7 2).2.1 (TX7 2).2.2.1 ∈ zwt := zt3 (i := 72) (by decide +kernel) rfl
theorem fX7_137 : zfld RX7 137 7 2 false (.int) := ⟨_, _, _, rfl, by decide, zw103, zinX7, rfl, tyX7_ok 2 (by decide), ⟨tyX7, tyX7_ok⟩, nmX7, rfl⟩
theorem zw104 : Cond.fieldLink RX7 158 (TX7 4).1 (TX7 4).2.1 (TX7 4).2.2.1 ∈ zwt := zt3 (i := 74) (by decide +kernel) rfl
theorem fX7_158 : zfld RX7 158 7 4 false (.int) := ⟨_, _, _, rfl, by decide, zw104, zinX7, rfl, tyX7_ok 4 (by decide), ⟨tyX7, tyX7_ok⟩, nmX7, rfl⟩
theorem zw105 : Cond.instanceMethod yX6_init ∈ zwt := zt1 (i := 15) (by decide +kernel) rfl
theorem hd_yX6_init : jX6_init.1.cls ≠ "java/lang/invoke/MethodHandle" ∧ jX6_init.1.cls ≠ "java/lang/invoke/VarHandle" ∧ (parseMethodDescriptor jX6_init.1.desc).map (fun d => d.parameters.length) = some 0 := ⟨by decide, by decide, by decide +kernel⟩
theorem zw106 : Cond.methodLink RL 9 yX6_init ∈ zwt := zt1 (i := 14) (by decide +kernel) rfl
theorem zw107 : Cond.initialized yX6_init.cls ∈ zwt := zt1 (i := 1) (by decide +kernel) rfl
theorem zw108 : Cond.code yX6_init cX6_init 1 none ∈ zwt := zt1 (i := 16) (by decide +kernel) rfl
theorem kL_9 : zcal 2 RL 9 jX6_init 0 := ⟨zw106, ⟨zw105, rfl, rfl⟩, zw107, zw108, hd_yX6_init⟩
theorem zw109 : Cond.instanceMethod yX7_init ∈ zwt := zt3 (i := 67) (by decide +kernel) rfl
theorem hd_yX7_init : jX7_init.1.cls ≠ "java/lang/invoke/MethodHandle" ∧ jX7_init.1.cls ≠ "java/lang/invoke/VarHandle" ∧ (parseMethodDescriptor jX7_init.1.desc).map (fun d => d.parameters.length) = some 0 := ⟨by decide, by decide, by decide +kernel⟩
theorem zw110 : Cond.methodLink RL 12 yX7_init ∈ zwt := zt3 (i := 66) (by decide +kernel) rfl
theorem zw111 : Cond.initialized yX7_init.cls ∈ zwt := zt1 (i := 6) (by decide +kernel) rfl
theorem zw112 : Cond.code yX7_init cX7_init 2 none ∈ zwt := zt3 (i := 68) (by decide +kernel) rfl
theorem kL_12 : zcal 2 RL 12 jX7_init 0 := ⟨zw110, ⟨zw109, rfl, rfl⟩, zw111, zw112, hd_yX7_init⟩
theorem zw113 : Cond.instanceMethod yX6_join ∈ zwt := zt1 (i := 164) (by decide +kernel) rfl
theorem zw114 : Cond.selects yX6_join.cls yX6_join yX6_join ∈ zwt := zt1 (i := 165) (by decide +kernel) rfl
theorem hd_yX6_join : jX6_join.1.cls ≠ "java/lang/invoke/MethodHandle" ∧ jX6_join.1.cls ≠ "java/lang/invoke/VarHandle" ∧ (parseMethodDescriptor jX6_join.1.desc).map (fun d => d.parameters.length) = some 2 := ⟨by decide, by decide, by decide +kernel⟩
theorem zw115 : Cond.methodLink RL 13 yX6_join ∈ zwt := zt1 (i := 163) (by decide +kernel) rfl
theorem zw116 : Cond.initialized yX6_join.cls ∈ zwt := zt1 (i := 1) (by decide +kernel) rfl
theorem zw117 : Cond.code yX6_join cX6_join 3 (some .int) ∈ zwt := zt1 (i := 166) (by decide +kernel) rfl
theorem kL_13 : zcal 0 RL 13 jX6_join 2 := ⟨zw115, ⟨zw113, zw114⟩, zw116, zw117, hd_yX6_join⟩
theorem zw118 : Cond.instanceMethod yX7_join ∈ zwt := zt3 (i := 172) (by decide +kernel) rfl
theorem zw119 : Cond.selects yX7_join.cls yX7_join yX7_join ∈ zwt := zt3 (i := 173) (by decide +kernel) rfl
theorem hd_yX7_join : jX7_join.1.cls ≠ "java/lang/invoke/MethodHandle" ∧ jX7_join.1.cls ≠ "java/lang/invoke/VarHandle" ∧ (parseMethodDescriptor jX7_join.1.desc).map (fun d => d.parameters.length) = some 2 := ⟨by decide, by decide, by decide +kernel⟩
theorem zw120 : Cond.methodLink RL 17 yX7_join ∈ zwt := zt3 (i := 171) (by decide +kernel) rfl
theorem zw121 : Cond.initialized yX7_join.cls ∈ zwt := zt1 (i := 6) (by decide +kernel) rfl
theorem zw122 : Cond.code yX7_join cX7_join 3 (some .int) ∈ zwt := zt3 (i := 174) (by decide +kernel) rfl
theorem kL_17 : zcal 0 RL 17 jX7_join 2 := ⟨zw120, ⟨zw118, zw119⟩, zw121, zw122, hd_yX7_join⟩
theorem zw123 : Cond.instanceMethod yX6_pay ∈ zwt := zt1 (i := 210) (by decide +kernel) rfl
theorem zw124 : Cond.selects yX6_pay.cls yX6_pay yX6_pay ∈ zwt := zt1 (i := 211) (by decide +kernel) rfl
theorem hd_yX6_pay : jX6_pay.1.cls ≠ "java/lang/invoke/MethodHandle" ∧ jX6_pay.1.cls ≠ "java/lang/invoke/VarHandle" ∧ (parseMethodDescriptor jX6_pay.1.desc).map (fun d => d.parameters.length) = some 2 := ⟨by decide, by decide, by decide +kernel⟩
theorem zw125 : Cond.methodLink RL 18 yX6_pay ∈ zwt := zt1 (i := 209) (by decide +kernel) rfl
theorem zw126 : Cond.initialized yX6_pay.cls ∈ zwt := zt1 (i := 1) (by decide +kernel) rfl
theorem zw127 : Cond.code yX6_pay cX6_pay 4 (some .int) ∈ zwt := zt1 (i := 212) (by decide +kernel) rfl
theorem kL_18 : zcal 0 RL 18 jX6_pay 2 := ⟨zw125, ⟨zw123, zw124⟩, zw126, zw127, hd_yX6_pay⟩
theorem zw128 : Cond.instanceMethod yX7_pay ∈ zwt := zt3 (i := 179) (by decide +kernel) rfl
theorem zw129 : Cond.selects yX7_pay.cls yX7_pay yX7_pay ∈ zwt := zt3 (i := 180) (by decide +kernel) rfl
theorem hd_yX7_pay : jX7_pay.1.cls ≠ "java/lang/invoke/MethodHandle" ∧ jX7_pay.1.cls ≠ "java/lang/invoke/VarHandle" ∧ (parseMethodDescriptor jX7_pay.1.desc).map (fun d => d.parameters.length) = some 2 := ⟨by decide, by decide, by decide +kernel⟩
theorem zw130 : Cond.methodLink RL 21 yX7_pay ∈ zwt := zt3 (i := 178) (by decide +kernel) rfl
theorem zw131 : Cond.initialized yX7_pay.cls ∈ zwt := zt1 (i := 6) (by decide +kernel) rfl
theorem zw132 : Cond.code yX7_pay cX7_pay 3 (some .int) ∈ zwt := zt3 (i := 181) (by decide +kernel) rfl
theorem kL_21 : zcal 0 RL 21 jX7_pay 2 := ⟨zw130, ⟨zw128, zw129⟩, zw131, zw132, hd_yX7_pay⟩
theorem zw133 : Cond.instanceMethod yX6_rule ∈ zwt := zt2 (i := 3) (by decide +kernel) rfl
theorem zw134 : Cond.selects yX6_rule.cls yX6_rule yX6_rule ∈ zwt := zt2 (i := 4) (by decide +kernel) rfl
theorem hd_yX6_rule : jX6_rule.1.cls ≠ "java/lang/invoke/MethodHandle" ∧ jX6_rule.1.cls ≠ "java/lang/invoke/VarHandle" ∧ (parseMethodDescriptor jX6_rule.1.desc).map (fun d => d.parameters.length) = some 3 := ⟨by decide, by decide, by decide +kernel⟩
theorem zw135 : Cond.methodLink RL 22 yX6_rule ∈ zwt := zt2 (i := 2) (by decide +kernel) rfl
theorem zw136 : Cond.initialized yX6_rule.cls ∈ zwt := zt1 (i := 1) (by decide +kernel) rfl
theorem zw137 : Cond.code yX6_rule cX6_rule 5 (some .int) ∈ zwt := zt2 (i := 5) (by decide +kernel) rfl
theorem kL_22 : zcal 0 RL 22 jX6_rule 3 := ⟨zw135, ⟨zw133, zw134⟩, zw136, zw137, hd_yX6_rule⟩
theorem zw138 : Cond.instanceMethod yX7_rule ∈ zwt := zt3 (i := 207) (by decide +kernel) rfl
theorem zw139 : Cond.selects yX7_rule.cls yX7_rule yX7_rule ∈ zwt := zt3 (i := 208) (by decide +kernel) rfl
theorem hd_yX7_rule : jX7_rule.1.cls ≠ "java/lang/invoke/MethodHandle" ∧ jX7_rule.1.cls ≠ "java/lang/invoke/VarHandle" ∧ (parseMethodDescriptor jX7_rule.1.desc).map (fun d => d.parameters.length) = some 3 := ⟨by decide, by decide, by decide +kernel⟩
theorem zw140 : Cond.methodLink RL 26 yX7_rule ∈ zwt := zt3 (i := 206) (by decide +kernel) rfl
theorem zw141 : Cond.initialized yX7_rule.cls ∈ zwt := zt1 (i := 6) (by decide +kernel) rfl
theorem zw142 : Cond.code yX7_rule cX7_rule 4 (some .int) ∈ zwt := zt3 (i := 209) (by decide +kernel) rfl
theorem kL_26 : zcal 0 RL 26 jX7_rule 3 := ⟨zw140, ⟨zw138, zw139⟩, zw141, zw142, hd_yX7_rule⟩
theorem zw143 : Cond.instanceMethod yX6_paper ∈ zwt := zt2 (i := 32) (by decide +kernel) rfl
theorem zw144 : Cond.selects yX6_paper.cls yX6_paper yX6_paper ∈ zwt := zt2 (i := 33) (by decide +kernel) rfl
theorem hd_yX6_paper : jX6_paper.1.cls ≠ "java/lang/invoke/MethodHandle" ∧ jX6_paper.1.cls ≠ "java/lang/invoke/VarHandle" ∧ (parseMethodDescriptor jX6_paper.1.desc).map (fun d => d.parameters.length) = some 3 := ⟨by decide, by decide, by decide +kernel⟩
theorem zw145 : Cond.methodLink RL 27 yX6_paper ∈ zwt := zt2 (i := 31) (by decide +kernel) rfl
theorem zw146 : Cond.initialized yX6_paper.cls ∈ zwt := zt1 (i := 1) (by decide +kernel) rfl
theorem zw147 : Cond.code yX6_paper cX6_paper 6 (some .int) ∈ zwt := zt2 (i := 34) (by decide +kernel) rfl
theorem kL_27 : zcal 0 RL 27 jX6_paper 3 := ⟨zw145, ⟨zw143, zw144⟩, zw146, zw147, hd_yX6_paper⟩
theorem zw148 : Cond.instanceMethod yX7_paper ∈ zwt := zt3 (i := 221) (by decide +kernel) rfl
theorem zw149 : Cond.selects yX7_paper.cls yX7_paper yX7_paper ∈ zwt := zt3 (i := 222) (by decide +kernel) rfl
theorem hd_yX7_paper : jX7_paper.1.cls ≠ "java/lang/invoke/MethodHandle" ∧ jX7_paper.1.cls ≠ "java/lang/invoke/VarHandle" ∧ (parseMethodDescriptor jX7_paper.1.desc).map (fun d => d.parameters.length) = some 3 := ⟨by decide, by decide, by decide +kernel⟩
theorem zw150 : Cond.methodLink RL 30 yX7_paper ∈ zwt := zt3 (i := 220) (by decide +kernel) rfl
theorem zw151 : Cond.initialized yX7_paper.cls ∈ zwt := zt1 (i := 6) (by decide +kernel) rfl
theorem zw152 : Cond.code yX7_paper cX7_paper 4 (some .int) ∈ zwt := zt3 (i := 223) (by decide +kernel) rfl
theorem kL_30 : zcal 0 RL 30 jX7_paper 3 := ⟨zw150, ⟨zw148, zw149⟩, zw151, zw152, hd_yX7_paper⟩
theorem zw153 : Cond.instanceMethod yX6_back ∈ zwt := zt2 (i := 76) (by decide +kernel) rfl
theorem zw154 : Cond.selects yX6_back.cls yX6_back yX6_back ∈ zwt := zt2 (i := 77) (by decide +kernel) rfl
theorem hd_yX6_back : jX6_back.1.cls ≠ "java/lang/invoke/MethodHandle" ∧ jX6_back.1.cls ≠ "java/lang/invoke/VarHandle" ∧ (parseMethodDescriptor jX6_back.1.desc).map (fun d => d.parameters.length) = some 1 := ⟨by decide, by decide, by decide +kernel⟩
theorem zw155 : Cond.methodLink RL 31 yX6_back ∈ zwt := zt2 (i := 75) (by decide +kernel) rfl
theorem zw156 : Cond.initialized yX6_back.cls ∈ zwt := zt1 (i := 1) (by decide +kernel) rfl
theorem zw157 : Cond.code yX6_back cX6_back 4 (some .boolean) ∈ zwt := zt2 (i := 78) (by decide +kernel) rfl
theorem kL_31 : zcal 0 RL 31 jX6_back 1 := ⟨zw155, ⟨zw153, zw154⟩, zw156, zw157, hd_yX6_back⟩
theorem zw158 : Cond.instanceMethod yX7_back ∈ zwt := zt3 (i := 225) (by decide +kernel) rfl
theorem zw159 : Cond.selects yX7_back.cls yX7_back yX7_back ∈ zwt := zt3 (i := 226) (by decide +kernel) rfl
theorem hd_yX7_back : jX7_back.1.cls ≠ "java/lang/invoke/MethodHandle" ∧ jX7_back.1.cls ≠ "java/lang/invoke/VarHandle" ∧ (parseMethodDescriptor jX7_back.1.desc).map (fun d => d.parameters.length) = some 1 := ⟨by decide, by decide, by decide +kernel⟩
theorem zw160 : Cond.methodLink RL 35 yX7_back ∈ zwt := zt3 (i := 224) (by decide +kernel) rfl
theorem zw161 : Cond.initialized yX7_back.cls ∈ zwt := zt1 (i := 6) (by decide +kernel) rfl
theorem zw162 : Cond.code yX7_back cX7_back 2 (some .boolean) ∈ zwt := zt3 (i := 227) (by decide +kernel) rfl
theorem kL_35 : zcal 0 RL 35 jX7_back 1 := ⟨zw160, ⟨zw158, zw159⟩, zw161, zw162, hd_yX7_back⟩
theorem zw163 : Cond.instanceMethod yX6_week ∈ zwt := zt2 (i := 84) (by decide +kernel) rfl
theorem zw164 : Cond.selects yX6_week.cls yX6_week yX6_week ∈ zwt := zt2 (i := 85) (by decide +kernel) rfl
theorem hd_yX6_week : jX6_week.1.cls ≠ "java/lang/invoke/MethodHandle" ∧ jX6_week.1.cls ≠ "java/lang/invoke/VarHandle" ∧ (parseMethodDescriptor jX6_week.1.desc).map (fun d => d.parameters.length) = some 0 := ⟨by decide, by decide, by decide +kernel⟩
theorem zw165 : Cond.methodLink RL 36 yX6_week ∈ zwt := zt2 (i := 83) (by decide +kernel) rfl
theorem zw166 : Cond.initialized yX6_week.cls ∈ zwt := zt1 (i := 1) (by decide +kernel) rfl
theorem zw167 : Cond.code yX6_week cX6_week 3 (some .int) ∈ zwt := zt2 (i := 86) (by decide +kernel) rfl
theorem kL_36 : zcal 0 RL 36 jX6_week 0 := ⟨zw165, ⟨zw163, zw164⟩, zw166, zw167, hd_yX6_week⟩
theorem zw168 : Cond.instanceMethod yX7_week ∈ zwt := zt3 (i := 229) (by decide +kernel) rfl
theorem zw169 : Cond.selects yX7_week.cls yX7_week yX7_week ∈ zwt := zt3 (i := 230) (by decide +kernel) rfl
theorem hd_yX7_week : jX7_week.1.cls ≠ "java/lang/invoke/MethodHandle" ∧ jX7_week.1.cls ≠ "java/lang/invoke/VarHandle" ∧ (parseMethodDescriptor jX7_week.1.desc).map (fun d => d.parameters.length) = some 0 := ⟨by decide, by decide, by decide +kernel⟩
theorem zw170 : Cond.methodLink RL 40 yX7_week ∈ zwt := zt3 (i := 228) (by decide +kernel) rfl
theorem zw171 : Cond.initialized yX7_week.cls ∈ zwt := zt1 (i := 6) (by decide +kernel) rfl
theorem zw172 : Cond.code yX7_week cX7_week 5 (some .int) ∈ zwt := zt3 (i := 231) (by decide +kernel) rfl
theorem kL_40 : zcal 0 RL 40 jX7_week 0 := ⟨zw170, ⟨zw168, zw169⟩, zw171, zw172, hd_yX7_week⟩
theorem zw173 : Cond.instanceMethod yX6_table ∈ zwt := zt2 (i := 175) (by decide +kernel) rfl
theorem zw174 : Cond.selects yX6_table.cls yX6_table yX6_table ∈ zwt := zt2 (i := 176) (by decide +kernel) rfl
theorem hd_yX6_table : jX6_table.1.cls ≠ "java/lang/invoke/MethodHandle" ∧ jX6_table.1.cls ≠ "java/lang/invoke/VarHandle" ∧ (parseMethodDescriptor jX6_table.1.desc).map (fun d => d.parameters.length) = some 3 := ⟨by decide, by decide, by decide +kernel⟩
theorem zw175 : Cond.methodLink RL 41 yX6_table ∈ zwt := zt2 (i := 174) (by decide +kernel) rfl
theorem zw176 : Cond.initialized yX6_table.cls ∈ zwt := zt1 (i := 1) (by decide +kernel) rfl
theorem zw177 : Cond.code yX6_table cX6_table 4 (some .boolean) ∈ zwt := zt2 (i := 177) (by decide +kernel) rfl
theorem kL_41 : zcal 0 RL 41 jX6_table 3 := ⟨zw175, ⟨zw173, zw174⟩, zw176, zw177, hd_yX6_table⟩
theorem zw178 : Cond.instanceMethod yX7_table ∈ zwt := zt4 (i := 9) (by decide +kernel) rfl
theorem zw179 : Cond.selects yX7_table.cls yX7_table yX7_table ∈ zwt := zt4 (i := 10) (by decide +kernel) rfl
theorem hd_yX7_table : jX7_table.1.cls ≠ "java/lang/invoke/MethodHandle" ∧ jX7_table.1.cls ≠ "java/lang/invoke/VarHandle" ∧ (parseMethodDescriptor jX7_table.1.desc).map (fun d => d.parameters.length) = some 3 := ⟨by decide, by decide, by decide +kernel⟩
theorem zw180 : Cond.methodLink RL 45 yX7_table ∈ zwt := zt4 (i := 8) (by decide +kernel) rfl
theorem zw181 : Cond.initialized yX7_table.cls ∈ zwt := zt1 (i := 6) (by decide +kernel) rfl
theorem zw182 : Cond.code yX7_table cX7_table 4 (some .boolean) ∈ zwt := zt4 (i := 11) (by decide +kernel) rfl
theorem kL_45 : zcal 0 RL 45 jX7_table 3 := ⟨zw180, ⟨zw178, zw179⟩, zw181, zw182, hd_yX7_table⟩
theorem zw183 : Cond.instanceMethod yX6_force ∈ zwt := zt2 (i := 183) (by decide +kernel) rfl
theorem zw184 : Cond.selects yX6_force.cls yX6_force yX6_force ∈ zwt := zt2 (i := 184) (by decide +kernel) rfl
theorem hd_yX6_force : jX6_force.1.cls ≠ "java/lang/invoke/MethodHandle" ∧ jX6_force.1.cls ≠ "java/lang/invoke/VarHandle" ∧ (parseMethodDescriptor jX6_force.1.desc).map (fun d => d.parameters.length) = some 3 := ⟨by decide, by decide, by decide +kernel⟩
theorem zw185 : Cond.methodLink RL 46 yX6_force ∈ zwt := zt2 (i := 182) (by decide +kernel) rfl
theorem zw186 : Cond.initialized yX6_force.cls ∈ zwt := zt1 (i := 1) (by decide +kernel) rfl
theorem zw187 : Cond.code yX6_force cX6_force 4 (some .int) ∈ zwt := zt2 (i := 185) (by decide +kernel) rfl
theorem kL_46 : zcal 0 RL 46 jX6_force 3 := ⟨zw185, ⟨zw183, zw184⟩, zw186, zw187, hd_yX6_force⟩
theorem zw188 : Cond.instanceMethod yX7_force ∈ zwt := zt4 (i := 13) (by decide +kernel) rfl
theorem zw189 : Cond.selects yX7_force.cls yX7_force yX7_force ∈ zwt := zt4 (i := 14) (by decide +kernel) rfl
theorem hd_yX7_force : jX7_force.1.cls ≠ "java/lang/invoke/MethodHandle" ∧ jX7_force.1.cls ≠ "java/lang/invoke/VarHandle" ∧ (parseMethodDescriptor jX7_force.1.desc).map (fun d => d.parameters.length) = some 3 := ⟨by decide, by decide, by decide +kernel⟩
theorem zw190 : Cond.methodLink RL 49 yX7_force ∈ zwt := zt4 (i := 12) (by decide +kernel) rfl
theorem zw191 : Cond.initialized yX7_force.cls ∈ zwt := zt1 (i := 6) (by decide +kernel) rfl
theorem zw192 : Cond.code yX7_force cX7_force 4 (some .int) ∈ zwt := zt4 (i := 15) (by decide +kernel) rfl
theorem kL_49 : zcal 0 RL 49 jX7_force 3 := ⟨zw190, ⟨zw188, zw189⟩, zw191, zw192, hd_yX7_force⟩
theorem zw193 : Cond.instanceMethod yX6_grant ∈ zwt := zt2 (i := 197) (by decide +kernel) rfl
theorem zw194 : Cond.selects yX6_grant.cls yX6_grant yX6_grant ∈ zwt := zt2 (i := 198) (by decide +kernel) rfl
theorem hd_yX6_grant : jX6_grant.1.cls ≠ "java/lang/invoke/MethodHandle" ∧ jX6_grant.1.cls ≠ "java/lang/invoke/VarHandle" ∧ (parseMethodDescriptor jX6_grant.1.desc).map (fun d => d.parameters.length) = some 3 := ⟨by decide, by decide, by decide +kernel⟩
theorem zw195 : Cond.methodLink RL 50 yX6_grant ∈ zwt := zt2 (i := 196) (by decide +kernel) rfl
theorem zw196 : Cond.initialized yX6_grant.cls ∈ zwt := zt1 (i := 1) (by decide +kernel) rfl
theorem zw197 : Cond.code yX6_grant cX6_grant 5 (some .int) ∈ zwt := zt2 (i := 199) (by decide +kernel) rfl
theorem kL_50 : zcal 0 RL 50 jX6_grant 3 := ⟨zw195, ⟨zw193, zw194⟩, zw196, zw197, hd_yX6_grant⟩
theorem zw198 : Cond.instanceMethod yX7_grant ∈ zwt := zt4 (i := 21) (by decide +kernel) rfl
theorem zw199 : Cond.selects yX7_grant.cls yX7_grant yX7_grant ∈ zwt := zt4 (i := 22) (by decide +kernel) rfl
theorem hd_yX7_grant : jX7_grant.1.cls ≠ "java/lang/invoke/MethodHandle" ∧ jX7_grant.1.cls ≠ "java/lang/invoke/VarHandle" ∧ (parseMethodDescriptor jX7_grant.1.desc).map (fun d => d.parameters.length) = some 3 := ⟨by decide, by decide, by decide +kernel⟩
theorem zw200 : Cond.methodLink RL 53 yX7_grant ∈ zwt := zt4 (i := 20) (by decide +kernel) rfl
theorem zw201 : Cond.initialized yX7_grant.cls ∈ zwt := zt1 (i := 6) (by decide +kernel) rfl
theorem zw202 : Cond.code yX7_grant cX7_grant 4 (some .int) ∈ zwt := zt4 (i := 23) (by decide +kernel) rfl
theorem kL_53 : zcal 0 RL 53 jX7_grant 3 := ⟨zw200, ⟨zw198, zw199⟩, zw201, zw202, hd_yX7_grant⟩
theorem zw203 : Cond.instanceMethod yX6_day ∈ zwt := zt2 (i := 207) (by decide +kernel) rfl
theorem zw204 : Cond.selects yX6_day.cls yX6_day yX6_day ∈ zwt := zt2 (i := 208) (by decide +kernel) rfl
theorem hd_yX6_day : jX6_day.1.cls ≠ "java/lang/invoke/MethodHandle" ∧ jX6_day.1.cls ≠ "java/lang/invoke/VarHandle" ∧ (parseMethodDescriptor jX6_day.1.desc).map (fun d => d.parameters.length) = some 3 := ⟨by decide, by decide, by decide +kernel⟩
theorem zw205 : Cond.methodLink RL 54 yX6_day ∈ zwt := zt2 (i := 206) (by decide +kernel) rfl
theorem zw206 : Cond.initialized yX6_day.cls ∈ zwt := zt1 (i := 1) (by decide +kernel) rfl
theorem zw207 : Cond.code yX6_day cX6_day 5 (some .int) ∈ zwt := zt2 (i := 209) (by decide +kernel) rfl
theorem kL_54 : zcal 0 RL 54 jX6_day 3 := ⟨zw205, ⟨zw203, zw204⟩, zw206, zw207, hd_yX6_day⟩
theorem zw208 : Cond.instanceMethod yX7_day ∈ zwt := zt4 (i := 25) (by decide +kernel) rfl
theorem zw209 : Cond.selects yX7_day.cls yX7_day yX7_day ∈ zwt := zt4 (i := 26) (by decide +kernel) rfl
theorem hd_yX7_day : jX7_day.1.cls ≠ "java/lang/invoke/MethodHandle" ∧ jX7_day.1.cls ≠ "java/lang/invoke/VarHandle" ∧ (parseMethodDescriptor jX7_day.1.desc).map (fun d => d.parameters.length) = some 3 := ⟨by decide, by decide, by decide +kernel⟩
theorem zw210 : Cond.methodLink RL 57 yX7_day ∈ zwt := zt4 (i := 24) (by decide +kernel) rfl
theorem zw211 : Cond.initialized yX7_day.cls ∈ zwt := zt1 (i := 6) (by decide +kernel) rfl
theorem zw212 : Cond.code yX7_day cX7_day 4 (some .int) ∈ zwt := zt4 (i := 27) (by decide +kernel) rfl
theorem kL_57 : zcal 0 RL 57 jX7_day 3 := ⟨zw210, ⟨zw208, zw209⟩, zw211, zw212, hd_yX7_day⟩
theorem zw213 : Cond.instanceMethod yX6_arrears ∈ zwt := zt2 (i := 215) (by decide +kernel) rfl
theorem zw214 : Cond.selects yX6_arrears.cls yX6_arrears yX6_arrears ∈ zwt := zt2 (i := 216) (by decide +kernel) rfl
theorem hd_yX6_arrears : jX6_arrears.1.cls ≠ "java/lang/invoke/MethodHandle" ∧ jX6_arrears.1.cls ≠ "java/lang/invoke/VarHandle" ∧ (parseMethodDescriptor jX6_arrears.1.desc).map (fun d => d.parameters.length) = some 3 := ⟨by decide, by decide, by decide +kernel⟩
theorem zw215 : Cond.methodLink RL 58 yX6_arrears ∈ zwt := zt2 (i := 214) (by decide +kernel) rfl
theorem zw216 : Cond.initialized yX6_arrears.cls ∈ zwt := zt1 (i := 1) (by decide +kernel) rfl
theorem zw217 : Cond.code yX6_arrears cX6_arrears 5 (some .int) ∈ zwt := zt2 (i := 217) (by decide +kernel) rfl
theorem kL_58 : zcal 0 RL 58 jX6_arrears 3 := ⟨zw215, ⟨zw213, zw214⟩, zw216, zw217, hd_yX6_arrears⟩
theorem zw218 : Cond.instanceMethod yX7_arrears ∈ zwt := zt4 (i := 29) (by decide +kernel) rfl
theorem zw219 : Cond.selects yX7_arrears.cls yX7_arrears yX7_arrears ∈ zwt := zt4 (i := 30) (by decide +kernel) rfl
theorem hd_yX7_arrears : jX7_arrears.1.cls ≠ "java/lang/invoke/MethodHandle" ∧ jX7_arrears.1.cls ≠ "java/lang/invoke/VarHandle" ∧ (parseMethodDescriptor jX7_arrears.1.desc).map (fun d => d.parameters.length) = some 3 := ⟨by decide, by decide, by decide +kernel⟩
theorem zw220 : Cond.methodLink RL 61 yX7_arrears ∈ zwt := zt4 (i := 28) (by decide +kernel) rfl
theorem zw221 : Cond.initialized yX7_arrears.cls ∈ zwt := zt1 (i := 6) (by decide +kernel) rfl
theorem zw222 : Cond.code yX7_arrears cX7_arrears 4 (some .int) ∈ zwt := zt4 (i := 31) (by decide +kernel) rfl
theorem kL_61 : zcal 0 RL 61 jX7_arrears 3 := ⟨zw220, ⟨zw218, zw219⟩, zw221, zw222, hd_yX7_arrears⟩
theorem zw223 : Cond.instanceMethod yX6_out ∈ zwt := zt2 (i := 219) (by decide +kernel) rfl
theorem zw224 : Cond.selects yX6_out.cls yX6_out yX6_out ∈ zwt := zt2 (i := 220) (by decide +kernel) rfl
theorem hd_yX6_out : jX6_out.1.cls ≠ "java/lang/invoke/MethodHandle" ∧ jX6_out.1.cls ≠ "java/lang/invoke/VarHandle" ∧ (parseMethodDescriptor jX6_out.1.desc).map (fun d => d.parameters.length) = some 3 := ⟨by decide, by decide, by decide +kernel⟩
theorem zw225 : Cond.methodLink RL 62 yX6_out ∈ zwt := zt2 (i := 218) (by decide +kernel) rfl
theorem zw226 : Cond.initialized yX6_out.cls ∈ zwt := zt1 (i := 1) (by decide +kernel) rfl
theorem zw227 : Cond.code yX6_out cX6_out 5 (some .boolean) ∈ zwt := zt2 (i := 221) (by decide +kernel) rfl
theorem kL_62 : zcal 0 RL 62 jX6_out 3 := ⟨zw225, ⟨zw223, zw224⟩, zw226, zw227, hd_yX6_out⟩
theorem zw228 : Cond.instanceMethod yX7_out ∈ zwt := zt4 (i := 33) (by decide +kernel) rfl
theorem zw229 : Cond.selects yX7_out.cls yX7_out yX7_out ∈ zwt := zt4 (i := 34) (by decide +kernel) rfl
theorem hd_yX7_out : jX7_out.1.cls ≠ "java/lang/invoke/MethodHandle" ∧ jX7_out.1.cls ≠ "java/lang/invoke/VarHandle" ∧ (parseMethodDescriptor jX7_out.1.desc).map (fun d => d.parameters.length) = some 3 := ⟨by decide, by decide, by decide +kernel⟩
theorem zw230 : Cond.methodLink RL 65 yX7_out ∈ zwt := zt4 (i := 32) (by decide +kernel) rfl
theorem zw231 : Cond.initialized yX7_out.cls ∈ zwt := zt1 (i := 6) (by decide +kernel) rfl
theorem zw232 : Cond.code yX7_out cX7_out 4 (some .boolean) ∈ zwt := zt4 (i := 35) (by decide +kernel) rfl
theorem kL_65 : zcal 0 RL 65 jX7_out 3 := ⟨zw230, ⟨zw228, zw229⟩, zw231, zw232, hd_yX7_out⟩
theorem zw233 : Cond.instanceMethod yX6_what ∈ zwt := zt2 (i := 224) (by decide +kernel) rfl
theorem zw234 : Cond.selects yX6_what.cls yX6_what yX6_what ∈ zwt := zt2 (i := 225) (by decide +kernel) rfl
theorem hd_yX6_what : jX6_what.1.cls ≠ "java/lang/invoke/MethodHandle" ∧ jX6_what.1.cls ≠ "java/lang/invoke/VarHandle" ∧ (parseMethodDescriptor jX6_what.1.desc).map (fun d => d.parameters.length) = some 5 := ⟨by decide, by decide, by decide +kernel⟩
theorem zw235 : Cond.methodLink RL 66 yX6_what ∈ zwt := zt2 (i := 223) (by decide +kernel) rfl
theorem zw236 : Cond.initialized yX6_what.cls ∈ zwt := zt1 (i := 1) (by decide +kernel) rfl
theorem zw237 : Cond.code yX6_what cX6_what 8 (some .int) ∈ zwt := zt2 (i := 226) (by decide +kernel) rfl
theorem kL_66 : zcal 0 RL 66 jX6_what 5 := ⟨zw235, ⟨zw233, zw234⟩, zw236, zw237, hd_yX6_what⟩
theorem zw238 : Cond.instanceMethod yX7_what ∈ zwt := zt4 (i := 37) (by decide +kernel) rfl
theorem zw239 : Cond.selects yX7_what.cls yX7_what yX7_what ∈ zwt := zt4 (i := 38) (by decide +kernel) rfl
theorem hd_yX7_what : jX7_what.1.cls ≠ "java/lang/invoke/MethodHandle" ∧ jX7_what.1.cls ≠ "java/lang/invoke/VarHandle" ∧ (parseMethodDescriptor jX7_what.1.desc).map (fun d => d.parameters.length) = some 5 := ⟨by decide, by decide, by decide +kernel⟩
theorem zw240 : Cond.methodLink RL 70 yX7_what ∈ zwt := zt4 (i := 36) (by decide +kernel) rfl
theorem zw241 : Cond.initialized yX7_what.cls ∈ zwt := zt1 (i := 6) (by decide +kernel) rfl
theorem zw242 : Cond.code yX7_what cX7_what 6 (some .int) ∈ zwt := zt4 (i := 39) (by decide +kernel) rfl
theorem kL_70 : zcal 0 RL 70 jX7_what 5 := ⟨zw240, ⟨zw238, zw239⟩, zw241, zw242, hd_yX7_what⟩
theorem zw243 : Cond.instanceMethod yX6_booked ∈ zwt := zt2 (i := 236) (by decide +kernel) rfl
theorem zw244 : Cond.selects yX6_booked.cls yX6_booked yX6_booked ∈ zwt := zt2 (i := 237) (by decide +kernel) rfl
theorem hd_yX6_booked : jX6_booked.1.cls ≠ "java/lang/invoke/MethodHandle" ∧ jX6_booked.1.cls ≠ "java/lang/invoke/VarHandle" ∧ (parseMethodDescriptor jX6_booked.1.desc).map (fun d => d.parameters.length) = some 2 := ⟨by decide, by decide, by decide +kernel⟩
theorem zw245 : Cond.methodLink RL 71 yX6_booked ∈ zwt := zt2 (i := 235) (by decide +kernel) rfl
theorem zw246 : Cond.initialized yX6_booked.cls ∈ zwt := zt1 (i := 1) (by decide +kernel) rfl
theorem zw247 : Cond.code yX6_booked cX6_booked 4 (some .int) ∈ zwt := zt2 (i := 238) (by decide +kernel) rfl
theorem kL_71 : zcal 0 RL 71 jX6_booked 2 := ⟨zw245, ⟨zw243, zw244⟩, zw246, zw247, hd_yX6_booked⟩
theorem zw248 : Cond.instanceMethod yX7_booked ∈ zwt := zt4 (i := 41) (by decide +kernel) rfl
theorem zw249 : Cond.selects yX7_booked.cls yX7_booked yX7_booked ∈ zwt := zt4 (i := 42) (by decide +kernel) rfl
theorem hd_yX7_booked : jX7_booked.1.cls ≠ "java/lang/invoke/MethodHandle" ∧ jX7_booked.1.cls ≠ "java/lang/invoke/VarHandle" ∧ (parseMethodDescriptor jX7_booked.1.desc).map (fun d => d.parameters.length) = some 2 := ⟨by decide, by decide, by decide +kernel⟩
theorem zw250 : Cond.methodLink RL 74 yX7_booked ∈ zwt := zt4 (i := 40) (by decide +kernel) rfl
theorem zw251 : Cond.initialized yX7_booked.cls ∈ zwt := zt1 (i := 6) (by decide +kernel) rfl
theorem zw252 : Cond.code yX7_booked cX7_booked 3 (some .int) ∈ zwt := zt4 (i := 43) (by decide +kernel) rfl
theorem kL_74 : zcal 0 RL 74 jX7_booked 2 := ⟨zw250, ⟨zw248, zw249⟩, zw251, zw252, hd_yX7_booked⟩
theorem zw253 : Cond.instanceMethod yX6_entry ∈ zwt := zt3 (i := 0) (by decide +kernel) rfl
theorem zw254 : Cond.selects yX6_entry.cls yX6_entry yX6_entry ∈ zwt := zt3 (i := 1) (by decide +kernel) rfl
theorem hd_yX6_entry : jX6_entry.1.cls ≠ "java/lang/invoke/MethodHandle" ∧ jX6_entry.1.cls ≠ "java/lang/invoke/VarHandle" ∧ (parseMethodDescriptor jX6_entry.1.desc).map (fun d => d.parameters.length) = some 2 := ⟨by decide, by decide, by decide +kernel⟩
theorem zw255 : Cond.methodLink RL 75 yX6_entry ∈ zwt := zt2 (i := 239) (by decide +kernel) rfl
theorem zw256 : Cond.initialized yX6_entry.cls ∈ zwt := zt1 (i := 1) (by decide +kernel) rfl
theorem zw257 : Cond.code yX6_entry cX6_entry 3 (some .int) ∈ zwt := zt3 (i := 2) (by decide +kernel) rfl
theorem kL_75 : zcal 0 RL 75 jX6_entry 2 := ⟨zw255, ⟨zw253, zw254⟩, zw256, zw257, hd_yX6_entry⟩
theorem zw258 : Cond.instanceMethod yX7_entry ∈ zwt := zt4 (i := 45) (by decide +kernel) rfl
theorem zw259 : Cond.selects yX7_entry.cls yX7_entry yX7_entry ∈ zwt := zt4 (i := 46) (by decide +kernel) rfl
theorem hd_yX7_entry : jX7_entry.1.cls ≠ "java/lang/invoke/MethodHandle" ∧ jX7_entry.1.cls ≠ "java/lang/invoke/VarHandle" ∧ (parseMethodDescriptor jX7_entry.1.desc).map (fun d => d.parameters.length) = some 2 := ⟨by decide, by decide, by decide +kernel⟩
theorem zw260 : Cond.methodLink RL 78 yX7_entry ∈ zwt := zt4 (i := 44) (by decide +kernel) rfl
theorem zw261 : Cond.initialized yX7_entry.cls ∈ zwt := zt1 (i := 6) (by decide +kernel) rfl
theorem zw262 : Cond.code yX7_entry cX7_entry 3 (some .int) ∈ zwt := zt4 (i := 47) (by decide +kernel) rfl
theorem kL_78 : zcal 0 RL 78 jX7_entry 2 := ⟨zw260, ⟨zw258, zw259⟩, zw261, zw262, hd_yX7_entry⟩
theorem zw263 : Cond.instanceMethod yX6_worth ∈ zwt := zt3 (i := 9) (by decide +kernel) rfl
theorem zw264 : Cond.selects yX6_worth.cls yX6_worth yX6_worth ∈ zwt := zt3 (i := 10) (by decide +kernel) rfl
theorem hd_yX6_worth : jX6_worth.1.cls ≠ "java/lang/invoke/MethodHandle" ∧ jX6_worth.1.cls ≠ "java/lang/invoke/VarHandle" ∧ (parseMethodDescriptor jX6_worth.1.desc).map (fun d => d.parameters.length) = some 3 := ⟨by decide, by decide, by decide +kernel⟩
theorem zw265 : Cond.methodLink RL 79 yX6_worth ∈ zwt := zt3 (i := 8) (by decide +kernel) rfl
theorem zw266 : Cond.initialized yX6_worth.cls ∈ zwt := zt1 (i := 1) (by decide +kernel) rfl
theorem zw267 : Cond.code yX6_worth cX6_worth 14 (some .long) ∈ zwt := zt3 (i := 11) (by decide +kernel) rfl
theorem kL_79 : zcal 0 RL 79 jX6_worth 3 := ⟨zw265, ⟨zw263, zw264⟩, zw266, zw267, hd_yX6_worth⟩
theorem zw268 : Cond.instanceMethod yX7_worth ∈ zwt := zt4 (i := 49) (by decide +kernel) rfl
theorem zw269 : Cond.selects yX7_worth.cls yX7_worth yX7_worth ∈ zwt := zt4 (i := 50) (by decide +kernel) rfl
theorem hd_yX7_worth : jX7_worth.1.cls ≠ "java/lang/invoke/MethodHandle" ∧ jX7_worth.1.cls ≠ "java/lang/invoke/VarHandle" ∧ (parseMethodDescriptor jX7_worth.1.desc).map (fun d => d.parameters.length) = some 3 := ⟨by decide, by decide, by decide +kernel⟩
theorem zw270 : Cond.methodLink RL 83 yX7_worth ∈ zwt := zt4 (i := 48) (by decide +kernel) rfl
theorem zw271 : Cond.initialized yX7_worth.cls ∈ zwt := zt1 (i := 6) (by decide +kernel) rfl
theorem zw272 : Cond.code yX7_worth cX7_worth 19 (some .long) ∈ zwt := zt4 (i := 51) (by decide +kernel) rfl
theorem kL_83 : zcal 0 RL 83 jX7_worth 3 := ⟨zw270, ⟨zw268, zw269⟩, zw271, zw272, hd_yX7_worth⟩
theorem zw273 : Cond.instanceMethod yX6_lodge ∈ zwt := zt3 (i := 33) (by decide +kernel) rfl
theorem zw274 : Cond.selects yX6_lodge.cls yX6_lodge yX6_lodge ∈ zwt := zt3 (i := 34) (by decide +kernel) rfl
theorem hd_yX6_lodge : jX6_lodge.1.cls ≠ "java/lang/invoke/MethodHandle" ∧ jX6_lodge.1.cls ≠ "java/lang/invoke/VarHandle" ∧ (parseMethodDescriptor jX6_lodge.1.desc).map (fun d => d.parameters.length) = some 2 := ⟨by decide, by decide, by decide +kernel⟩
theorem zw275 : Cond.methodLink RL 84 yX6_lodge ∈ zwt := zt3 (i := 32) (by decide +kernel) rfl
theorem zw276 : Cond.initialized yX6_lodge.cls ∈ zwt := zt1 (i := 1) (by decide +kernel) rfl
theorem zw277 : Cond.code yX6_lodge cX6_lodge 5 (some .int) ∈ zwt := zt3 (i := 35) (by decide +kernel) rfl
theorem kL_84 : zcal 0 RL 84 jX6_lodge 2 := ⟨zw275, ⟨zw273, zw274⟩, zw276, zw277, hd_yX6_lodge⟩
theorem zw278 : Cond.instanceMethod yX7_lodge ∈ zwt := zt4 (i := 63) (by decide +kernel) rfl
theorem zw279 : Cond.selects yX7_lodge.cls yX7_lodge yX7_lodge ∈ zwt := zt4 (i := 64) (by decide +kernel) rfl
theorem hd_yX7_lodge : jX7_lodge.1.cls ≠ "java/lang/invoke/MethodHandle" ∧ jX7_lodge.1.cls ≠ "java/lang/invoke/VarHandle" ∧ (parseMethodDescriptor jX7_lodge.1.desc).map (fun d => d.parameters.length) = some 2 := ⟨by decide, by decide, by decide +kernel⟩
theorem zw280 : Cond.methodLink RL 87 yX7_lodge ∈ zwt := zt4 (i := 62) (by decide +kernel) rfl
theorem zw281 : Cond.initialized yX7_lodge.cls ∈ zwt := zt1 (i := 6) (by decide +kernel) rfl
theorem zw282 : Cond.code yX7_lodge cX7_lodge 5 (some .int) ∈ zwt := zt4 (i := 65) (by decide +kernel) rfl
theorem kL_87 : zcal 0 RL 87 jX7_lodge 2 := ⟨zw280, ⟨zw278, zw279⟩, zw281, zw282, hd_yX7_lodge⟩
theorem zw283 : Cond.instanceMethod yX6_member ∈ zwt := zt3 (i := 41) (by decide +kernel) rfl
theorem zw284 : Cond.selects yX6_member.cls yX6_member yX6_member ∈ zwt := zt3 (i := 42) (by decide +kernel) rfl
theorem hd_yX6_member : jX6_member.1.cls ≠ "java/lang/invoke/MethodHandle" ∧ jX6_member.1.cls ≠ "java/lang/invoke/VarHandle" ∧ (parseMethodDescriptor jX6_member.1.desc).map (fun d => d.parameters.length) = some 2 := ⟨by decide, by decide, by decide +kernel⟩
theorem zw285 : Cond.methodLink RL 88 yX6_member ∈ zwt := zt3 (i := 40) (by decide +kernel) rfl
theorem zw286 : Cond.initialized yX6_member.cls ∈ zwt := zt1 (i := 1) (by decide +kernel) rfl
theorem zw287 : Cond.code yX6_member cX6_member 4 (some .int) ∈ zwt := zt3 (i := 43) (by decide +kernel) rfl
theorem kL_88 : zcal 0 RL 88 jX6_member 2 := ⟨zw285, ⟨zw283, zw284⟩, zw286, zw287, hd_yX6_member⟩
theorem zw288 : Cond.instanceMethod yX7_member ∈ zwt := zt4 (i := 75) (by decide +kernel) rfl
theorem zw289 : Cond.selects yX7_member.cls yX7_member yX7_member ∈ zwt := zt4 (i := 76) (by decide +kernel) rfl
theorem hd_yX7_member : jX7_member.1.cls ≠ "java/lang/invoke/MethodHandle" ∧ jX7_member.1.cls ≠ "java/lang/invoke/VarHandle" ∧ (parseMethodDescriptor jX7_member.1.desc).map (fun d => d.parameters.length) = some 2 := ⟨by decide, by decide, by decide +kernel⟩
theorem zw290 : Cond.methodLink RL 91 yX7_member ∈ zwt := zt4 (i := 74) (by decide +kernel) rfl
theorem zw291 : Cond.initialized yX7_member.cls ∈ zwt := zt1 (i := 6) (by decide +kernel) rfl
theorem zw292 : Cond.code yX7_member cX7_member 3 (some .int) ∈ zwt := zt4 (i := 77) (by decide +kernel) rfl
theorem kL_91 : zcal 0 RL 91 jX7_member 2 := ⟨zw290, ⟨zw288, zw289⟩, zw291, zw292, hd_yX7_member⟩
theorem zw293 : Cond.instanceMethod yX6_told ∈ zwt := zt3 (i := 45) (by decide +kernel) rfl
theorem zw294 : Cond.selects yX6_told.cls yX6_told yX6_told ∈ zwt := zt3 (i := 46) (by decide +kernel) rfl
theorem hd_yX6_told : jX6_told.1.cls ≠ "java/lang/invoke/MethodHandle" ∧ jX6_told.1.cls ≠ "java/lang/invoke/VarHandle" ∧ (parseMethodDescriptor jX6_told.1.desc).map (fun d => d.parameters.length) = some 2 := ⟨by decide, by decide, by decide +kernel⟩
theorem zw295 : Cond.methodLink RL 92 yX6_told ∈ zwt := zt3 (i := 44) (by decide +kernel) rfl
theorem zw296 : Cond.initialized yX6_told.cls ∈ zwt := zt1 (i := 1) (by decide +kernel) rfl
theorem zw297 : Cond.code yX6_told cX6_told 4 (some .int) ∈ zwt := zt3 (i := 47) (by decide +kernel) rfl
theorem kL_92 : zcal 0 RL 92 jX6_told 2 := ⟨zw295, ⟨zw293, zw294⟩, zw296, zw297, hd_yX6_told⟩
theorem zw298 : Cond.instanceMethod yX7_told ∈ zwt := zt4 (i := 79) (by decide +kernel) rfl
theorem zw299 : Cond.selects yX7_told.cls yX7_told yX7_told ∈ zwt := zt4 (i := 80) (by decide +kernel) rfl
theorem hd_yX7_told : jX7_told.1.cls ≠ "java/lang/invoke/MethodHandle" ∧ jX7_told.1.cls ≠ "java/lang/invoke/VarHandle" ∧ (parseMethodDescriptor jX7_told.1.desc).map (fun d => d.parameters.length) = some 2 := ⟨by decide, by decide, by decide +kernel⟩
theorem zw300 : Cond.methodLink RL 95 yX7_told ∈ zwt := zt4 (i := 78) (by decide +kernel) rfl
theorem zw301 : Cond.initialized yX7_told.cls ∈ zwt := zt1 (i := 6) (by decide +kernel) rfl
theorem zw302 : Cond.code yX7_told cX7_told 3 (some .int) ∈ zwt := zt4 (i := 81) (by decide +kernel) rfl
theorem kL_95 : zcal 0 RL 95 jX7_told 2 := ⟨zw300, ⟨zw298, zw299⟩, zw301, zw302, hd_yX7_told⟩
theorem zw303 : Cond.instanceMethod yX6_count ∈ zwt := zt3 (i := 49) (by decide +kernel) rfl
theorem zw304 : Cond.selects yX6_count.cls yX6_count yX6_count ∈ zwt := zt3 (i := 50) (by decide +kernel) rfl
theorem hd_yX6_count : jX6_count.1.cls ≠ "java/lang/invoke/MethodHandle" ∧ jX6_count.1.cls ≠ "java/lang/invoke/VarHandle" ∧ (parseMethodDescriptor jX6_count.1.desc).map (fun d => d.parameters.length) = some 1 := ⟨by decide, by decide, by decide +kernel⟩
theorem zw305 : Cond.methodLink RL 96 yX6_count ∈ zwt := zt3 (i := 48) (by decide +kernel) rfl
theorem zw306 : Cond.initialized yX6_count.cls ∈ zwt := zt1 (i := 1) (by decide +kernel) rfl
theorem zw307 : Cond.code yX6_count cX6_count 2 (some .int) ∈ zwt := zt3 (i := 51) (by decide +kernel) rfl
theorem kL_96 : zcal 0 RL 96 jX6_count 1 := ⟨zw305, ⟨zw303, zw304⟩, zw306, zw307, hd_yX6_count⟩
theorem zw308 : Cond.instanceMethod yX7_count ∈ zwt := zt4 (i := 83) (by decide +kernel) rfl
theorem zw309 : Cond.selects yX7_count.cls yX7_count yX7_count ∈ zwt := zt4 (i := 84) (by decide +kernel) rfl
theorem hd_yX7_count : jX7_count.1.cls ≠ "java/lang/invoke/MethodHandle" ∧ jX7_count.1.cls ≠ "java/lang/invoke/VarHandle" ∧ (parseMethodDescriptor jX7_count.1.desc).map (fun d => d.parameters.length) = some 1 := ⟨by decide, by decide, by decide +kernel⟩
theorem zw310 : Cond.methodLink RL 100 yX7_count ∈ zwt := zt4 (i := 82) (by decide +kernel) rfl
theorem zw311 : Cond.initialized yX7_count.cls ∈ zwt := zt1 (i := 6) (by decide +kernel) rfl
theorem zw312 : Cond.code yX7_count cX7_count 5 (some .int) ∈ zwt := zt4 (i := 85) (by decide +kernel) rfl
theorem kL_100 : zcal 0 RL 100 jX7_count 1 := ⟨zw310, ⟨zw308, zw309⟩, zw311, zw312, hd_yX7_count⟩
theorem zw313 : Cond.instanceMethod yX0_goOver ∈ zwt := zt2 (i := 92) (by decide +kernel) rfl
theorem zw314 : Cond.selects yX0_goOver.cls yX0_goOver yX0_goOver ∈ zwt := zt2 (i := 93) (by decide +kernel) rfl
theorem hd_yX0_goOver : jX0_goOver.1.cls ≠ "java/lang/invoke/MethodHandle" ∧ jX0_goOver.1.cls ≠ "java/lang/invoke/VarHandle" ∧ (parseMethodDescriptor jX0_goOver.1.desc).map (fun d => d.parameters.length) = some 4 := ⟨by decide, by decide, by decide +kernel⟩
theorem zw315 : Cond.methodLink RX0 23 yX0_goOver ∈ zwt := zt2 (i := 205) (by decide +kernel) rfl
theorem zw316 : Cond.initialized yX0_goOver.cls ∈ zwt := zt1 (i := 3) (by decide +kernel) rfl
theorem zw317 : Cond.code yX0_goOver cX0_goOver 9 none ∈ zwt := zt2 (i := 94) (by decide +kernel) rfl
theorem kX0_23 : zcal 0 RX0 23 jX0_goOver 4 := ⟨zw315, ⟨zw313, zw314⟩, zw316, zw317, hd_yX0_goOver⟩
theorem zw318 : Cond.instanceMethod yX0_begin ∈ zwt := zt2 (i := 97) (by decide +kernel) rfl
theorem zw319 : Cond.selects yX0_begin.cls yX0_begin yX0_begin ∈ zwt := zt0 (i := 6) (by decide +kernel) rfl
theorem hd_yX0_begin : jX0_begin.1.cls ≠ "java/lang/invoke/MethodHandle" ∧ jX0_begin.1.cls ≠ "java/lang/invoke/VarHandle" ∧ (parseMethodDescriptor jX0_begin.1.desc).map (fun d => d.parameters.length) = some 2 := ⟨by decide, by decide, by decide +kernel⟩
theorem zw320 : Cond.methodLink RX0 34 yX0_begin ∈ zwt := zt2 (i := 95) (by decide +kernel) rfl
theorem zw321 : Cond.initialized yX0_begin.cls ∈ zwt := zt1 (i := 3) (by decide +kernel) rfl
theorem zw322 : Cond.code yX0_begin cX0_begin 3 none ∈ zwt := zt2 (i := 98) (by decide +kernel) rfl
theorem kX0_34 : zcal 0 RX0 34 jX0_begin 2 := ⟨zw320, ⟨zw318, zw319⟩, zw321, zw322, hd_yX0_begin⟩
theorem zw323 : Cond.instanceMethod yX3_isKnownIn ∈ zwt := zt2 (i := 101) (by decide +kernel) rfl
theorem zw324 : Cond.selects yX3_isKnownIn.cls yX3_isKnownIn yX3_isKnownIn ∈ zwt := zt2 (i := 102) (by decide +kernel) rfl
theorem hd_yX3_isKnownIn : jX3_isKnownIn.1.cls ≠ "java/lang/invoke/MethodHandle" ∧ jX3_isKnownIn.1.cls ≠ "java/lang/invoke/VarHandle" ∧ (parseMethodDescriptor jX3_isKnownIn.1.desc).map (fun d => d.parameters.length) = some 1 := ⟨by decide, by decide, by decide +kernel⟩
theorem zw325 : Cond.methodLink RX0 50 yX3_isKnownIn ∈ zwt := zt2 (i := 100) (by decide +kernel) rfl
theorem zw326 : Cond.initialized yX3_isKnownIn.cls ∈ zwt := zt1 (i := 9) (by decide +kernel) rfl
theorem zw327 : Cond.code yX3_isKnownIn cX3_isKnownIn 2 (some .boolean) ∈ zwt := zt2 (i := 103) (by decide +kernel) rfl
theorem kX0_50 : zcal 0 RX0 50 jX3_isKnownIn 1 := ⟨zw325, ⟨zw323, zw324⟩, zw326, zw327, hd_yX3_isKnownIn⟩
theorem zw328 : Cond.instanceMethod yX0_goTo ∈ zwt := zt2 (i := 109) (by decide +kernel) rfl
theorem zw329 : Cond.selects yX0_goTo.cls yX0_goTo yX0_goTo ∈ zwt := zt0 (i := 7) (by decide +kernel) rfl
theorem hd_yX0_goTo : jX0_goTo.1.cls ≠ "java/lang/invoke/MethodHandle" ∧ jX0_goTo.1.cls ≠ "java/lang/invoke/VarHandle" ∧ (parseMethodDescriptor jX0_goTo.1.desc).map (fun d => d.parameters.length) = some 1 := ⟨by decide, by decide, by decide +kernel⟩
theorem zw330 : Cond.methodLink RX0 65 yX0_goTo ∈ zwt := zt2 (i := 107) (by decide +kernel) rfl
theorem zw331 : Cond.initialized yX0_goTo.cls ∈ zwt := zt1 (i := 3) (by decide +kernel) rfl
theorem zw332 : Cond.code yX0_goTo cX0_goTo 3 none ∈ zwt := zt2 (i := 110) (by decide +kernel) rfl
theorem kX0_65 : zcal 0 RX0 65 jX0_goTo 1 := ⟨zw330, ⟨zw328, zw329⟩, zw331, zw332, hd_yX0_goTo⟩
theorem zw333 : Cond.instanceMethod yX0_coins ∈ zwt := zt2 (i := 126) (by decide +kernel) rfl
theorem zw334 : Cond.selects yX0_coins.cls yX0_coins yX0_coins ∈ zwt := zt0 (i := 10) (by decide +kernel) rfl
theorem hd_yX0_coins : jX0_coins.1.cls ≠ "java/lang/invoke/MethodHandle" ∧ jX0_coins.1.cls ≠ "java/lang/invoke/VarHandle" ∧ (parseMethodDescriptor jX0_coins.1.desc).map (fun d => d.parameters.length) = some 1 := ⟨by decide, by decide, by decide +kernel⟩
theorem zw335 : Cond.methodLink RX0 69 yX0_coins ∈ zwt := zt2 (i := 124) (by decide +kernel) rfl
theorem zw336 : Cond.initialized yX0_coins.cls ∈ zwt := zt1 (i := 3) (by decide +kernel) rfl
theorem zw337 : Cond.code yX0_coins cX0_coins 3 (some .int) ∈ zwt := zt2 (i := 127) (by decide +kernel) rfl
theorem kX0_69 : zcal 0 RX0 69 jX0_coins 1 := ⟨zw335, ⟨zw333, zw334⟩, zw336, zw337, hd_yX0_coins⟩
theorem zw338 : Cond.instanceMethod yX0_beginIllness ∈ zwt := zt2 (i := 113) (by decide +kernel) rfl
theorem zw339 : Cond.selects yX0_beginIllness.cls yX0_beginIllness yX0_beginIllness ∈ zwt := zt0 (i := 8) (by decide +kernel) rfl
theorem hd_yX0_beginIllness : jX0_beginIllness.1.cls ≠ "java/lang/invoke/MethodHandle" ∧ jX0_beginIllness.1.cls ≠ "java/lang/invoke/VarHandle" ∧ (parseMethodDescriptor jX0_beginIllness.1.desc).map (fun d => d.parameters.length) = some 1 := ⟨by decide, by decide, by decide +kernel⟩
theorem zw340 : Cond.methodLink RX0 94 yX0_beginIllness ∈ zwt := zt2 (i := 111) (by decide +kernel) rfl
theorem zw341 : Cond.initialized yX0_beginIllness.cls ∈ zwt := zt1 (i := 3) (by decide +kernel) rfl
theorem zw342 : Cond.code yX0_beginIllness cX0_beginIllness 2 none ∈ zwt := zt2 (i := 114) (by decide +kernel) rfl
theorem kX0_94 : zcal 0 RX0 94 jX0_beginIllness 1 := ⟨zw340, ⟨zw338, zw339⟩, zw341, zw342, hd_yX0_beginIllness⟩
theorem zw343 : Cond.instanceMethod yX2_isOutIn ∈ zwt := zt2 (i := 116) (by decide +kernel) rfl
theorem zw344 : Cond.selects yX2_isOutIn.cls yX2_isOutIn yX2_isOutIn ∈ zwt := zt2 (i := 117) (by decide +kernel) rfl
theorem hd_yX2_isOutIn : jX2_isOutIn.1.cls ≠ "java/lang/invoke/MethodHandle" ∧ jX2_isOutIn.1.cls ≠ "java/lang/invoke/VarHandle" ∧ (parseMethodDescriptor jX2_isOutIn.1.desc).map (fun d => d.parameters.length) = some 3 := ⟨by decide, by decide, by decide +kernel⟩
theorem zw345 : Cond.methodLink RX0 97 yX2_isOutIn ∈ zwt := zt2 (i := 115) (by decide +kernel) rfl
theorem zw346 : Cond.initialized yX2_isOutIn.cls ∈ zwt := zt1 (i := 7) (by decide +kernel) rfl
theorem zw347 : Cond.code yX2_isOutIn cX2_isOutIn 4 (some .boolean) ∈ zwt := zt2 (i := 118) (by decide +kernel) rfl
theorem kX0_97 : zcal 0 RX0 97 jX2_isOutIn 3 := ⟨zw345, ⟨zw343, zw344⟩, zw346, zw347, hd_yX2_isOutIn⟩
theorem zw348 : Cond.instanceMethod yX0_natureOfNth ∈ zwt := zt2 (i := 122) (by decide +kernel) rfl
theorem zw349 : Cond.selects yX0_natureOfNth.cls yX0_natureOfNth yX0_natureOfNth ∈ zwt := zt0 (i := 9) (by decide +kernel) rfl
theorem hd_yX0_natureOfNth : jX0_natureOfNth.1.cls ≠ "java/lang/invoke/MethodHandle" ∧ jX0_natureOfNth.1.cls ≠ "java/lang/invoke/VarHandle" ∧ (parseMethodDescriptor jX0_natureOfNth.1.desc).map (fun d => d.parameters.length) = some 0 := ⟨by decide, by decide, by decide +kernel⟩
theorem zw350 : Cond.methodLink RX0 105 yX0_natureOfNth ∈ zwt := zt2 (i := 120) (by decide +kernel) rfl
theorem zw351 : Cond.initialized yX0_natureOfNth.cls ∈ zwt := zt1 (i := 3) (by decide +kernel) rfl
theorem zw352 : Cond.code yX0_natureOfNth cX0_natureOfNth 1 (some .int) ∈ zwt := zt2 (i := 123) (by decide +kernel) rfl
theorem kX0_105 : zcal 0 RX0 105 jX0_natureOfNth 0 := ⟨zw350, ⟨zw348, zw349⟩, zw351, zw352, hd_yX0_natureOfNth⟩
theorem zw353 : Cond.static yJ7_copyOf_59c91 ∈ zwt := zt2 (i := 148) (by decide +kernel) rfl
theorem hd_yJ7_copyOf_59c91 : jJ7_copyOf_59c91.1.cls ≠ "java/lang/invoke/MethodHandle" ∧ jJ7_copyOf_59c91.1.cls ≠ "java/lang/invoke/VarHandle" ∧ (parseMethodDescriptor jJ7_copyOf_59c91.1.desc).map (fun d => d.parameters.length) = some 2 := ⟨by decide, by decide, by decide +kernel⟩
theorem zw354 : Cond.methodLink RX1 29 yJ7_copyOf_59c91 ∈ zwt := zt2 (i := 147) (by decide +kernel) rfl
theorem zw355 : Cond.initialized yJ7_copyOf_59c91.cls ∈ zwt := zt1 (i := 10) (by decide +kernel) rfl
theorem zw356 : Cond.code yJ7_copyOf_59c91 cJ7_copyOf_59c91 3 (some (.array .int)) ∈ zwt := zt2 (i := 149) (by decide +kernel) rfl
theorem kX1_29 : zcal 1 RX1 29 jJ7_copyOf_59c91 2 := ⟨zw354, zw353, zw355, zw356, hd_yJ7_copyOf_59c91⟩
theorem zw357 : Cond.instanceMethod yX2_arrearsIn ∈ zwt := zt1 (i := 236) (by decide +kernel) rfl
theorem zw358 : Cond.selects yX2_arrearsIn.cls yX2_arrearsIn yX2_arrearsIn ∈ zwt := zt1 (i := 237) (by decide +kernel) rfl
theorem hd_yX2_arrearsIn : jX2_arrearsIn.1.cls ≠ "java/lang/invoke/MethodHandle" ∧ jX2_arrearsIn.1.cls ≠ "java/lang/invoke/VarHandle" ∧ (parseMethodDescriptor jX2_arrearsIn.1.desc).map (fun d => d.parameters.length) = some 3 := ⟨by decide, by decide, by decide +kernel⟩
theorem zw359 : Cond.methodLink RX2 54 yX2_arrearsIn ∈ zwt := zt2 (i := 119) (by decide +kernel) rfl
theorem zw360 : Cond.initialized yX2_arrearsIn.cls ∈ zwt := zt1 (i := 7) (by decide +kernel) rfl
theorem zw361 : Cond.code yX2_arrearsIn cX2_arrearsIn 5 (some .int) ∈ zwt := zt1 (i := 238) (by decide +kernel) rfl
theorem kX2_54 : zcal 0 RX2 54 jX2_arrearsIn 3 := ⟨zw359, ⟨zw357, zw358⟩, zw360, zw361, hd_yX2_arrearsIn⟩
theorem zw362 : Cond.instanceMethod yX2_differenceIn ∈ zwt := zt2 (i := 133) (by decide +kernel) rfl
theorem zw363 : Cond.selects yX2_differenceIn.cls yX2_differenceIn yX2_differenceIn ∈ zwt := zt2 (i := 134) (by decide +kernel) rfl
theorem hd_yX2_differenceIn : jX2_differenceIn.1.cls ≠ "java/lang/invoke/MethodHandle" ∧ jX2_differenceIn.1.cls ≠ "java/lang/invoke/VarHandle" ∧ (parseMethodDescriptor jX2_differenceIn.1.desc).map (fun d => d.parameters.length) = some 1 := ⟨by decide, by decide, by decide +kernel⟩
theorem zw364 : Cond.methodLink RX2 62 yX2_differenceIn ∈ zwt := zt2 (i := 132) (by decide +kernel) rfl
theorem zw365 : Cond.initialized yX2_differenceIn.cls ∈ zwt := zt1 (i := 7) (by decide +kernel) rfl
theorem zw366 : Cond.code yX2_differenceIn cX2_differenceIn 2 (some .int) ∈ zwt := zt2 (i := 135) (by decide +kernel) rfl
theorem kX2_62 : zcal 0 RX2 62 jX2_differenceIn 1 := ⟨zw364, ⟨zw362, zw363⟩, zw365, zw366, hd_yX2_differenceIn⟩
theorem zw367 : Cond.static yX4_isKind ∈ zwt := zt2 (i := 10) (by decide +kernel) rfl
theorem hd_yX4_isKind : jX4_isKind.1.cls ≠ "java/lang/invoke/MethodHandle" ∧ jX4_isKind.1.cls ≠ "java/lang/invoke/VarHandle" ∧ (parseMethodDescriptor jX4_isKind.1.desc).map (fun d => d.parameters.length) = some 1 := ⟨by decide, by decide, by decide +kernel⟩
theorem zw368 : Cond.methodLink RX4 39 yX4_isKind ∈ zwt := zt2 (i := 9) (by decide +kernel) rfl
theorem zw369 : Cond.initialized yX4_isKind.cls ∈ zwt := zt1 (i := 2) (by decide +kernel) rfl
theorem zw370 : Cond.code yX4_isKind cX4_isKind 1 (some .boolean) ∈ zwt := zt2 (i := 11) (by decide +kernel) rfl
theorem kX4_39 : zcal 1 RX4 39 jX4_isKind 1 := ⟨zw368, zw367, zw369, zw370, hd_yX4_isKind⟩
theorem zw371 : Cond.static yX4_isWeek ∈ zwt := zt2 (i := 13) (by decide +kernel) rfl
theorem hd_yX4_isWeek : jX4_isWeek.1.cls ≠ "java/lang/invoke/MethodHandle" ∧ jX4_isWeek.1.cls ≠ "java/lang/invoke/VarHandle" ∧ (parseMethodDescriptor jX4_isWeek.1.desc).map (fun d => d.parameters.length) = some 1 := ⟨by decide, by decide, by decide +kernel⟩
theorem zw372 : Cond.methodLink RX4 43 yX4_isWeek ∈ zwt := zt2 (i := 12) (by decide +kernel) rfl
theorem zw373 : Cond.initialized yX4_isWeek.cls ∈ zwt := zt1 (i := 2) (by decide +kernel) rfl
theorem zw374 : Cond.code yX4_isWeek cX4_isWeek 1 (some .boolean) ∈ zwt := zt2 (i := 14) (by decide +kernel) rfl
theorem kX4_43 : zcal 1 RX4 43 jX4_isWeek 1 := ⟨zw372, zw371, zw373, zw374, hd_yX4_isWeek⟩
theorem zw375 : Cond.instanceMethod yX4_write ∈ zwt := zt2 (i := 29) (by decide +kernel) rfl
theorem zw376 : Cond.selects yX4_write.cls yX4_write yX4_write ∈ zwt := zt0 (i := 3) (by decide +kernel) rfl
theorem hd_yX4_write : jX4_write.1.cls ≠ "java/lang/invoke/MethodHandle" ∧ jX4_write.1.cls ≠ "java/lang/invoke/VarHandle" ∧ (parseMethodDescriptor jX4_write.1.desc).map (fun d => d.parameters.length) = some 4 := ⟨by decide, by decide, by decide +kernel⟩
theorem zw377 : Cond.methodLink RX4 55 yX4_write ∈ zwt := zt2 (i := 27) (by decide +kernel) rfl
theorem zw378 : Cond.initialized yX4_write.cls ∈ zwt := zt1 (i := 2) (by decide +kernel) rfl
theorem zw379 : Cond.code yX4_write cX4_write 5 none ∈ zwt := zt2 (i := 30) (by decide +kernel) rfl
theorem kX4_55 : zcal 0 RX4 55 jX4_write 4 := ⟨zw377, ⟨zw375, zw376⟩, zw378, zw379, hd_yX4_write⟩
theorem zw380 : Cond.instanceMethod yX4_knownIn ∈ zwt := zt1 (i := 224) (by decide +kernel) rfl
theorem zw381 : Cond.selects yX4_knownIn.cls yX4_knownIn yX4_knownIn ∈ zwt := zt0 (i := 1) (by decide +kernel) rfl
theorem hd_yX4_knownIn : jX4_knownIn.1.cls ≠ "java/lang/invoke/MethodHandle" ∧ jX4_knownIn.1.cls ≠ "java/lang/invoke/VarHandle" ∧ (parseMethodDescriptor jX4_knownIn.1.desc).map (fun d => d.parameters.length) = some 1 := ⟨by decide, by decide, by decide +kernel⟩
theorem zw382 : Cond.methodLink RX4 59 yX4_knownIn ∈ zwt := zt1 (i := 222) (by decide +kernel) rfl
theorem zw383 : Cond.initialized yX4_knownIn.cls ∈ zwt := zt1 (i := 2) (by decide +kernel) rfl
theorem zw384 : Cond.code yX4_knownIn cX4_knownIn 3 (some .int) ∈ zwt := zt1 (i := 225) (by decide +kernel) rfl
theorem kX4_59 : zcal 0 RX4 59 jX4_knownIn 1 := ⟨zw382, ⟨zw380, zw381⟩, zw383, zw384, hd_yX4_knownIn⟩
theorem zw385 : Cond.instanceMethod yX4_look ∈ zwt := zt1 (i := 228) (by decide +kernel) rfl
theorem zw386 : Cond.selects yX4_look.cls yX4_look yX4_look ∈ zwt := zt0 (i := 2) (by decide +kernel) rfl
theorem hd_yX4_look : jX4_look.1.cls ≠ "java/lang/invoke/MethodHandle" ∧ jX4_look.1.cls ≠ "java/lang/invoke/VarHandle" ∧ (parseMethodDescriptor jX4_look.1.desc).map (fun d => d.parameters.length) = some 2 := ⟨by decide, by decide, by decide +kernel⟩
theorem zw387 : Cond.methodLink RX4 66 yX4_look ∈ zwt := zt1 (i := 226) (by decide +kernel) rfl
theorem zw388 : Cond.initialized yX4_look.cls ∈ zwt := zt1 (i := 2) (by decide +kernel) rfl
theorem zw389 : Cond.code yX4_look cX4_look 5 none ∈ zwt := zt1 (i := 229) (by decide +kernel) rfl
theorem kX4_66 : zcal 0 RX4 66 jX4_look 2 := ⟨zw387, ⟨zw385, zw386⟩, zw388, zw389, hd_yX4_look⟩
theorem zw390 : Cond.static yX4_handOn ∈ zwt := zt1 (i := 233) (by decide +kernel) rfl
theorem hd_yX4_handOn : jX4_handOn.1.cls ≠ "java/lang/invoke/MethodHandle" ∧ jX4_handOn.1.cls ≠ "java/lang/invoke/VarHandle" ∧ (parseMethodDescriptor jX4_handOn.1.desc).map (fun d => d.parameters.length) = some 3 := ⟨by decide, by decide, by decide +kernel⟩
theorem zw391 : Cond.methodLink RX4 70 yX4_handOn ∈ zwt := zt1 (i := 232) (by decide +kernel) rfl
theorem zw392 : Cond.initialized yX4_handOn.cls ∈ zwt := zt1 (i := 2) (by decide +kernel) rfl
theorem zw393 : Cond.code yX4_handOn cX4_handOn 5 none ∈ zwt := zt1 (i := 234) (by decide +kernel) rfl
theorem kX4_70 : zcal 1 RX4 70 jX4_handOn 3 := ⟨zw391, zw390, zw392, zw393, hd_yX4_handOn⟩
theorem zw394 : Cond.instanceMethod yX0_init ∈ zwt := zt1 (i := 68) (by decide +kernel) rfl
theorem hd_yX0_init : jX0_init.1.cls ≠ "java/lang/invoke/MethodHandle" ∧ jX0_init.1.cls ≠ "java/lang/invoke/VarHandle" ∧ (parseMethodDescriptor jX0_init.1.desc).map (fun d => d.parameters.length) = some 1 := ⟨by decide, by decide, by decide +kernel⟩
theorem zw395 : Cond.methodLink RX6 30 yX0_init ∈ zwt := zt1 (i := 67) (by decide +kernel) rfl
theorem zw396 : Cond.initialized yX0_init.cls ∈ zwt := zt1 (i := 3) (by decide +kernel) rfl
theorem zw397 : Cond.code yX0_init cX0_init 2 none ∈ zwt := zt1 (i := 69) (by decide +kernel) rfl
theorem kX6_30 : zcal 2 RX6 30 jX0_init 1 := ⟨zw395, ⟨zw394, rfl, rfl⟩, zw396, zw397, hd_yX0_init⟩
theorem zw398 : Cond.instanceMethod yX5_init ∈ zwt := zt1 (i := 125) (by decide +kernel) rfl
theorem hd_yX5_init : jX5_init.1.cls ≠ "java/lang/invoke/MethodHandle" ∧ jX5_init.1.cls ≠ "java/lang/invoke/VarHandle" ∧ (parseMethodDescriptor jX5_init.1.desc).map (fun d => d.parameters.length) = some 0 := ⟨by decide, by decide, by decide +kernel⟩
theorem zw399 : Cond.methodLink RX6 46 yX5_init ∈ zwt := zt1 (i := 124) (by decide +kernel) rfl
theorem zw400 : Cond.initialized yX5_init.cls ∈ zwt := zt1 (i := 5) (by decide +kernel) rfl
theorem zw401 : Cond.code yX5_init cX5_init 2 none ∈ zwt := zt1 (i := 126) (by decide +kernel) rfl
theorem kX6_46 : zcal 2 RX6 46 jX5_init 0 := ⟨zw399, ⟨zw398, rfl, rfl⟩, zw400, zw401, hd_yX5_init⟩
theorem zw402 : Cond.instanceMethod yX2_init ∈ zwt := zt1 (i := 169) (by decide +kernel) rfl
theorem hd_yX2_init : jX2_init.1.cls ≠ "java/lang/invoke/MethodHandle" ∧ jX2_init.1.cls ≠ "java/lang/invoke/VarHandle" ∧ (parseMethodDescriptor jX2_init.1.desc).map (fun d => d.parameters.length) = some 3 := ⟨by decide, by decide, by decide +kernel⟩
theorem zw403 : Cond.methodLink RX6 58 yX2_init ∈ zwt := zt1 (i := 168) (by decide +kernel) rfl
theorem zw404 : Cond.initialized yX2_init.cls ∈ zwt := zt1 (i := 7) (by decide +kernel) rfl
theorem zw405 : Cond.code yX2_init cX2_init 4 none ∈ zwt := zt1 (i := 170) (by decide +kernel) rfl
theorem kX6_58 : zcal 2 RX6 58 jX2_init 3 := ⟨zw403, ⟨zw402, rfl, rfl⟩, zw404, zw405, hd_yX2_init⟩
theorem zw406 : Cond.instanceMethod yX6_memberAt ∈ zwt := zt1 (i := 215) (by decide +kernel) rfl
theorem zw407 : Cond.selects yX6_memberAt.cls yX6_memberAt yX6_memberAt ∈ zwt := zt0 (i := 0) (by decide +kernel) rfl
theorem hd_yX6_memberAt : jX6_memberAt.1.cls ≠ "java/lang/invoke/MethodHandle" ∧ jX6_memberAt.1.cls ≠ "java/lang/invoke/VarHandle" ∧ (parseMethodDescriptor jX6_memberAt.1.desc).map (fun d => d.parameters.length) = some 1 := ⟨by decide, by decide, by decide +kernel⟩
theorem zw408 : Cond.methodLink RX6 61 yX6_memberAt ∈ zwt := zt1 (i := 213) (by decide +kernel) rfl
theorem zw409 : Cond.initialized yX6_memberAt.cls ∈ zwt := zt1 (i := 1) (by decide +kernel) rfl
theorem zw410 : Cond.code yX6_memberAt cX6_memberAt 2 (some (.object "BreadBox$Member")) ∈ zwt := zt1 (i := 216) (by decide +kernel) rfl
theorem kX6_61 : zcal 0 RX6 61 jX6_memberAt 1 := ⟨zw408, ⟨zw406, zw407⟩, zw409, zw410, hd_yX6_memberAt⟩
theorem zw411 : Cond.instanceMethod yX4_lookFrom ∈ zwt := zt1 (i := 219) (by decide +kernel) rfl
theorem zw412 : Cond.selects yX4_lookFrom.cls yX4_lookFrom yX4_lookFrom ∈ zwt := zt1 (i := 220) (by decide +kernel) rfl
theorem hd_yX4_lookFrom : jX4_lookFrom.1.cls ≠ "java/lang/invoke/MethodHandle" ∧ jX4_lookFrom.1.cls ≠ "java/lang/invoke/VarHandle" ∧ (parseMethodDescriptor jX4_lookFrom.1.desc).map (fun d => d.parameters.length) = some 2 := ⟨by decide, by decide, by decide +kernel⟩
theorem zw413 : Cond.methodLink RX6 70 yX4_lookFrom ∈ zwt := zt1 (i := 218) (by decide +kernel) rfl
theorem zw414 : Cond.initialized yX4_lookFrom.cls ∈ zwt := zt1 (i := 2) (by decide +kernel) rfl
theorem zw415 : Cond.code yX4_lookFrom cX4_lookFrom 3 none ∈ zwt := zt1 (i := 221) (by decide +kernel) rfl
theorem kX6_70 : zcal 0 RX6 70 jX4_lookFrom 2 := ⟨zw413, ⟨zw411, zw412⟩, zw414, zw415, hd_yX4_lookFrom⟩
theorem zw416 : Cond.methodLink RX6 74 yX2_arrearsIn ∈ zwt := zt1 (i := 235) (by decide +kernel) rfl
theorem kX6_74 : zcal 0 RX6 74 jX2_arrearsIn 3 := ⟨zw416, ⟨zw357, zw358⟩, zw360, zw361, hd_yX2_arrearsIn⟩
theorem zw417 : Cond.static yX4_mayBe ∈ zwt := zt2 (i := 7) (by decide +kernel) rfl
theorem hd_yX4_mayBe : jX4_mayBe.1.cls ≠ "java/lang/invoke/MethodHandle" ∧ jX4_mayBe.1.cls ≠ "java/lang/invoke/VarHandle" ∧ (parseMethodDescriptor jX4_mayBe.1.desc).map (fun d => d.parameters.length) = some 3 := ⟨by decide, by decide, by decide +kernel⟩
theorem zw418 : Cond.methodLink RX6 78 yX4_mayBe ∈ zwt := zt2 (i := 6) (by decide +kernel) rfl
theorem zw419 : Cond.initialized yX4_mayBe.cls ∈ zwt := zt1 (i := 2) (by decide +kernel) rfl
theorem zw420 : Cond.code yX4_mayBe cX4_mayBe 3 (some .boolean) ∈ zwt := zt2 (i := 8) (by decide +kernel) rfl
theorem kX6_78 : zcal 1 RX6 78 jX4_mayBe 3 := ⟨zw418, zw417, zw419, zw420, hd_yX4_mayBe⟩
theorem zw421 : Cond.instanceMethod yX4_isFull ∈ zwt := zt2 (i := 20) (by decide +kernel) rfl
theorem zw422 : Cond.selects yX4_isFull.cls yX4_isFull yX4_isFull ∈ zwt := zt2 (i := 21) (by decide +kernel) rfl
theorem hd_yX4_isFull : jX4_isFull.1.cls ≠ "java/lang/invoke/MethodHandle" ∧ jX4_isFull.1.cls ≠ "java/lang/invoke/VarHandle" ∧ (parseMethodDescriptor jX4_isFull.1.desc).map (fun d => d.parameters.length) = some 0 := ⟨by decide, by decide, by decide +kernel⟩
theorem zw423 : Cond.methodLink RX6 82 yX4_isFull ∈ zwt := zt2 (i := 19) (by decide +kernel) rfl
theorem zw424 : Cond.initialized yX4_isFull.cls ∈ zwt := zt1 (i := 2) (by decide +kernel) rfl
theorem zw425 : Cond.code yX4_isFull cX4_isFull 1 (some .boolean) ∈ zwt := zt2 (i := 22) (by decide +kernel) rfl
theorem kX6_82 : zcal 0 RX6 82 jX4_isFull 0 := ⟨zw423, ⟨zw421, zw422⟩, zw424, zw425, hd_yX4_isFull⟩
theorem zw426 : Cond.instanceMethod yX4_add ∈ zwt := zt2 (i := 24) (by decide +kernel) rfl
theorem zw427 : Cond.selects yX4_add.cls yX4_add yX4_add ∈ zwt := zt2 (i := 25) (by decide +kernel) rfl
theorem hd_yX4_add : jX4_add.1.cls ≠ "java/lang/invoke/MethodHandle" ∧ jX4_add.1.cls ≠ "java/lang/invoke/VarHandle" ∧ (parseMethodDescriptor jX4_add.1.desc).map (fun d => d.parameters.length) = some 4 := ⟨by decide, by decide, by decide +kernel⟩
theorem zw428 : Cond.methodLink RX6 86 yX4_add ∈ zwt := zt2 (i := 23) (by decide +kernel) rfl
theorem zw429 : Cond.initialized yX4_add.cls ∈ zwt := zt1 (i := 2) (by decide +kernel) rfl
theorem zw430 : Cond.code yX4_add cX4_add 5 none ∈ zwt := zt2 (i := 26) (by decide +kernel) rfl
theorem kX6_86 : zcal 0 RX6 86 jX4_add 4 := ⟨zw428, ⟨zw426, zw427⟩, zw429, zw430, hd_yX4_add⟩
theorem zw431 : Cond.static yX6_lastDayOf ∈ zwt := zt2 (i := 36) (by decide +kernel) rfl
theorem hd_yX6_lastDayOf : jX6_lastDayOf.1.cls ≠ "java/lang/invoke/MethodHandle" ∧ jX6_lastDayOf.1.cls ≠ "java/lang/invoke/VarHandle" ∧ (parseMethodDescriptor jX6_lastDayOf.1.desc).map (fun d => d.parameters.length) = some 1 := ⟨by decide, by decide, by decide +kernel⟩
theorem zw432 : Cond.methodLink RX6 103 yX6_lastDayOf ∈ zwt := zt2 (i := 35) (by decide +kernel) rfl
theorem zw433 : Cond.initialized yX6_lastDayOf.cls ∈ zwt := zt1 (i := 1) (by decide +kernel) rfl
theorem zw434 : Cond.code yX6_lastDayOf cX6_lastDayOf 1 (some .int) ∈ zwt := zt2 (i := 37) (by decide +kernel) rfl
theorem kX6_103 : zcal 1 RX6 103 jX6_lastDayOf 1 := ⟨zw432, zw431, zw433, zw434, hd_yX6_lastDayOf⟩
theorem zw435 : Cond.instanceMethod yX3_init ∈ zwt := zt2 (i := 40) (by decide +kernel) rfl
theorem hd_yX3_init : jX3_init.1.cls ≠ "java/lang/invoke/MethodHandle" ∧ jX3_init.1.cls ≠ "java/lang/invoke/VarHandle" ∧ (parseMethodDescriptor jX3_init.1.desc).map (fun d => d.parameters.length) = some 4 := ⟨by decide, by decide, by decide +kernel⟩
theorem zw436 : Cond.methodLink RX6 107 yX3_init ∈ zwt := zt2 (i := 39) (by decide +kernel) rfl
theorem zw437 : Cond.initialized yX3_init.cls ∈ zwt := zt1 (i := 9) (by decide +kernel) rfl
theorem zw438 : Cond.code yX3_init cX3_init 5 none ∈ zwt := zt2 (i := 41) (by decide +kernel) rfl
theorem kX6_107 : zcal 2 RX6 107 jX3_init 4 := ⟨zw436, ⟨zw435, rfl, rfl⟩, zw437, zw438, hd_yX3_init⟩
theorem zw439 : Cond.instanceMethod yX2_take ∈ zwt := zt2 (i := 72) (by decide +kernel) rfl
theorem zw440 : Cond.selects yX2_take.cls yX2_take yX2_take ∈ zwt := zt2 (i := 73) (by decide +kernel) rfl
theorem hd_yX2_take : jX2_take.1.cls ≠ "java/lang/invoke/MethodHandle" ∧ jX2_take.1.cls ≠ "java/lang/invoke/VarHandle" ∧ (parseMethodDescriptor jX2_take.1.desc).map (fun d => d.parameters.length) = some 1 := ⟨by decide, by decide, by decide +kernel⟩
theorem zw441 : Cond.methodLink RX6 109 yX2_take ∈ zwt := zt2 (i := 71) (by decide +kernel) rfl
theorem zw442 : Cond.initialized yX2_take.cls ∈ zwt := zt1 (i := 7) (by decide +kernel) rfl
theorem zw443 : Cond.code yX2_take cX2_take 4 none ∈ zwt := zt2 (i := 74) (by decide +kernel) rfl
theorem kX6_109 : zcal 0 RX6 109 jX2_take 1 := ⟨zw441, ⟨zw439, zw440⟩, zw442, zw443, hd_yX2_take⟩
theorem zw444 : Cond.instanceMethod yX6_paperAt ∈ zwt := zt2 (i := 81) (by decide +kernel) rfl
theorem zw445 : Cond.selects yX6_paperAt.cls yX6_paperAt yX6_paperAt ∈ zwt := zt0 (i := 4) (by decide +kernel) rfl
theorem hd_yX6_paperAt : jX6_paperAt.1.cls ≠ "java/lang/invoke/MethodHandle" ∧ jX6_paperAt.1.cls ≠ "java/lang/invoke/VarHandle" ∧ (parseMethodDescriptor jX6_paperAt.1.desc).map (fun d => d.parameters.length) = some 1 := ⟨by decide, by decide, by decide +kernel⟩
theorem zw446 : Cond.methodLink RX6 113 yX6_paperAt ∈ zwt := zt2 (i := 79) (by decide +kernel) rfl
theorem zw447 : Cond.initialized yX6_paperAt.cls ∈ zwt := zt1 (i := 1) (by decide +kernel) rfl
theorem zw448 : Cond.code yX6_paperAt cX6_paperAt 2 (some (.object "BreadBox$Paper")) ∈ zwt := zt2 (i := 82) (by decide +kernel) rfl
theorem kX6_113 : zcal 0 RX6 113 jX6_paperAt 1 := ⟨zw446, ⟨zw444, zw445⟩, zw447, zw448, hd_yX6_paperAt⟩
theorem zw449 : Cond.instanceMethod yX6_workAnew ∈ zwt := zt2 (i := 89) (by decide +kernel) rfl
theorem zw450 : Cond.selects yX6_workAnew.cls yX6_workAnew yX6_workAnew ∈ zwt := zt0 (i := 5) (by decide +kernel) rfl
theorem hd_yX6_workAnew : jX6_workAnew.1.cls ≠ "java/lang/invoke/MethodHandle" ∧ jX6_workAnew.1.cls ≠ "java/lang/invoke/VarHandle" ∧ (parseMethodDescriptor jX6_workAnew.1.desc).map (fun d => d.parameters.length) = some 0 := ⟨by decide, by decide, by decide +kernel⟩
theorem zw451 : Cond.methodLink RX6 123 yX6_workAnew ∈ zwt := zt2 (i := 87) (by decide +kernel) rfl
theorem zw452 : Cond.initialized yX6_workAnew.cls ∈ zwt := zt1 (i := 1) (by decide +kernel) rfl
theorem zw453 : Cond.code yX6_workAnew cX6_workAnew 4 (some .int) ∈ zwt := zt2 (i := 90) (by decide +kernel) rfl
theorem kX6_123 : zcal 0 RX6 123 jX6_workAnew 0 := ⟨zw451, ⟨zw449, zw450⟩, zw452, zw453, hd_yX6_workAnew⟩
theorem zw454 : Cond.instanceMethod yX6_bookDifferences ∈ zwt := zt2 (i := 138) (by decide +kernel) rfl
theorem zw455 : Cond.selects yX6_bookDifferences.cls yX6_bookDifferences yX6_bookDifferences ∈ zwt := zt0 (i := 11) (by decide +kernel) rfl
theorem hd_yX6_bookDifferences : jX6_bookDifferences.1.cls ≠ "java/lang/invoke/MethodHandle" ∧ jX6_bookDifferences.1.cls ≠ "java/lang/invoke/VarHandle" ∧ (parseMethodDescriptor jX6_bookDifferences.1.desc).map (fun d => d.parameters.length) = some 1 := ⟨by decide, by decide, by decide +kernel⟩
theorem zw456 : Cond.methodLink RX6 128 yX6_bookDifferences ∈ zwt := zt2 (i := 136) (by decide +kernel) rfl
theorem zw457 : Cond.initialized yX6_bookDifferences.cls ∈ zwt := zt1 (i := 1) (by decide +kernel) rfl
theorem zw458 : Cond.code yX6_bookDifferences cX6_bookDifferences 5 none ∈ zwt := zt2 (i := 139) (by decide +kernel) rfl
theorem kX6_128 : zcal 0 RX6 128 jX6_bookDifferences 1 := ⟨zw456, ⟨zw454, zw455⟩, zw457, zw458, hd_yX6_bookDifferences⟩
theorem zw459 : Cond.instanceMethod yX2_endWeek ∈ zwt := zt2 (i := 171) (by decide +kernel) rfl
theorem zw460 : Cond.selects yX2_endWeek.cls yX2_endWeek yX2_endWeek ∈ zwt := zt2 (i := 172) (by decide +kernel) rfl
theorem hd_yX2_endWeek : jX2_endWeek.1.cls ≠ "java/lang/invoke/MethodHandle" ∧ jX2_endWeek.1.cls ≠ "java/lang/invoke/VarHandle" ∧ (parseMethodDescriptor jX2_endWeek.1.desc).map (fun d => d.parameters.length) = some 1 := ⟨by decide, by decide, by decide +kernel⟩
theorem zw461 : Cond.methodLink RX6 132 yX2_endWeek ∈ zwt := zt2 (i := 170) (by decide +kernel) rfl
theorem zw462 : Cond.initialized yX2_endWeek.cls ∈ zwt := zt1 (i := 7) (by decide +kernel) rfl
theorem zw463 : Cond.code yX2_endWeek cX2_endWeek 2 none ∈ zwt := zt2 (i := 173) (by decide +kernel) rfl
theorem kX6_132 : zcal 0 RX6 132 jX2_endWeek 1 := ⟨zw461, ⟨zw459, zw460⟩, zw462, zw463, hd_yX2_endWeek⟩
theorem zw464 : Cond.instanceMethod yX5_change ∈ zwt := zt2 (i := 179) (by decide +kernel) rfl
theorem zw465 : Cond.selects yX5_change.cls yX5_change yX5_change ∈ zwt := zt2 (i := 180) (by decide +kernel) rfl
theorem hd_yX5_change : jX5_change.1.cls ≠ "java/lang/invoke/MethodHandle" ∧ jX5_change.1.cls ≠ "java/lang/invoke/VarHandle" ∧ (parseMethodDescriptor jX5_change.1.desc).map (fun d => d.parameters.length) = some 3 := ⟨by decide, by decide, by decide +kernel⟩
theorem zw466 : Cond.methodLink RX6 135 yX5_change ∈ zwt := zt2 (i := 178) (by decide +kernel) rfl
theorem zw467 : Cond.initialized yX5_change.cls ∈ zwt := zt1 (i := 5) (by decide +kernel) rfl
theorem zw468 : Cond.code yX5_change cX5_change 4 (some .boolean) ∈ zwt := zt2 (i := 181) (by decide +kernel) rfl
theorem kX6_135 : zcal 0 RX6 135 jX5_change 3 := ⟨zw466, ⟨zw464, zw465⟩, zw467, zw468, hd_yX5_change⟩
theorem zw469 : Cond.methodLink RX6 138 yX4_isKind ∈ zwt := zt2 (i := 186) (by decide +kernel) rfl
theorem kX6_138 : zcal 1 RX6 138 jX4_isKind 1 := ⟨zw469, zw367, zw369, zw370, hd_yX4_isKind⟩
theorem zw470 : Cond.methodLink RX6 142 yX4_isWeek ∈ zwt := zt2 (i := 187) (by decide +kernel) rfl
theorem kX6_142 : zcal 1 RX6 142 jX4_isWeek 1 := ⟨zw470, zw371, zw373, zw374, hd_yX4_isWeek⟩
theorem zw471 : Cond.instanceMethod yX6_isPast ∈ zwt := zt2 (i := 190) (by decide +kernel) rfl
theorem zw472 : Cond.selects yX6_isPast.cls yX6_isPast yX6_isPast ∈ zwt := zt0 (i := 12) (by decide +kernel) rfl
theorem hd_yX6_isPast : jX6_isPast.1.cls ≠ "java/lang/invoke/MethodHandle" ∧ jX6_isPast.1.cls ≠ "java/lang/invoke/VarHandle" ∧ (parseMethodDescriptor jX6_isPast.1.desc).map (fun d => d.parameters.length) = some 1 := ⟨by decide, by decide, by decide +kernel⟩
theorem zw473 : Cond.methodLink RX6 145 yX6_isPast ∈ zwt := zt2 (i := 188) (by decide +kernel) rfl
theorem zw474 : Cond.initialized yX6_isPast.cls ∈ zwt := zt1 (i := 1) (by decide +kernel) rfl
theorem zw475 : Cond.code yX6_isPast cX6_isPast 2 (some .boolean) ∈ zwt := zt2 (i := 191) (by decide +kernel) rfl
theorem kX6_145 : zcal 0 RX6 145 jX6_isPast 1 := ⟨zw473, ⟨zw471, zw472⟩, zw474, zw475, hd_yX6_isPast⟩
theorem zw476 : Cond.instanceMethod yX4_inForce ∈ zwt := zt2 (i := 193) (by decide +kernel) rfl
theorem zw477 : Cond.selects yX4_inForce.cls yX4_inForce yX4_inForce ∈ zwt := zt2 (i := 194) (by decide +kernel) rfl
theorem hd_yX4_inForce : jX4_inForce.1.cls ≠ "java/lang/invoke/MethodHandle" ∧ jX4_inForce.1.cls ≠ "java/lang/invoke/VarHandle" ∧ (parseMethodDescriptor jX4_inForce.1.desc).map (fun d => d.parameters.length) = some 3 := ⟨by decide, by decide, by decide +kernel⟩
theorem zw478 : Cond.methodLink RX6 148 yX4_inForce ∈ zwt := zt2 (i := 192) (by decide +kernel) rfl
theorem zw479 : Cond.initialized yX4_inForce.cls ∈ zwt := zt1 (i := 2) (by decide +kernel) rfl
theorem zw480 : Cond.code yX4_inForce cX4_inForce 8 (some .int) ∈ zwt := zt2 (i := 195) (by decide +kernel) rfl
theorem kX6_148 : zcal 0 RX6 148 jX4_inForce 3 := ⟨zw478, ⟨zw476, zw477⟩, zw479, zw480, hd_yX4_inForce⟩
theorem zw481 : Cond.instanceMethod yX0_grantOf ∈ zwt := zt2 (i := 201) (by decide +kernel) rfl
theorem zw482 : Cond.selects yX0_grantOf.cls yX0_grantOf yX0_grantOf ∈ zwt := zt2 (i := 202) (by decide +kernel) rfl
theorem hd_yX0_grantOf : jX0_grantOf.1.cls ≠ "java/lang/invoke/MethodHandle" ∧ jX0_grantOf.1.cls ≠ "java/lang/invoke/VarHandle" ∧ (parseMethodDescriptor jX0_grantOf.1.desc).map (fun d => d.parameters.length) = some 3 := ⟨by decide, by decide, by decide +kernel⟩
theorem zw483 : Cond.methodLink RX6 152 yX0_grantOf ∈ zwt := zt2 (i := 200) (by decide +kernel) rfl
theorem zw484 : Cond.initialized yX0_grantOf.cls ∈ zwt := zt1 (i := 3) (by decide +kernel) rfl
theorem zw485 : Cond.code yX0_grantOf cX0_grantOf 4 (some .int) ∈ zwt := zt2 (i := 203) (by decide +kernel) rfl
theorem kX6_152 : zcal 0 RX6 152 jX0_grantOf 3 := ⟨zw483, ⟨zw481, zw482⟩, zw484, zw485, hd_yX0_grantOf⟩
theorem zw486 : Cond.instanceMethod yX0_natureOf ∈ zwt := zt2 (i := 211) (by decide +kernel) rfl
theorem zw487 : Cond.selects yX0_natureOf.cls yX0_natureOf yX0_natureOf ∈ zwt := zt2 (i := 212) (by decide +kernel) rfl
theorem hd_yX0_natureOf : jX0_natureOf.1.cls ≠ "java/lang/invoke/MethodHandle" ∧ jX0_natureOf.1.cls ≠ "java/lang/invoke/VarHandle" ∧ (parseMethodDescriptor jX0_natureOf.1.desc).map (fun d => d.parameters.length) = some 3 := ⟨by decide, by decide, by decide +kernel⟩
theorem zw488 : Cond.methodLink RX6 156 yX0_natureOf ∈ zwt := zt2 (i := 210) (by decide +kernel) rfl
theorem zw489 : Cond.initialized yX0_natureOf.cls ∈ zwt := zt1 (i := 3) (by decide +kernel) rfl
theorem zw490 : Cond.code yX0_natureOf cX0_natureOf 4 (some .int) ∈ zwt := zt2 (i := 213) (by decide +kernel) rfl
theorem kX6_156 : zcal 0 RX6 156 jX0_natureOf 3 := ⟨zw488, ⟨zw486, zw487⟩, zw489, zw490, hd_yX0_natureOf⟩
theorem zw491 : Cond.methodLink RX6 159 yX2_isOutIn ∈ zwt := zt2 (i := 222) (by decide +kernel) rfl
theorem kX6_159 : zcal 0 RX6 159 jX2_isOutIn 3 := ⟨zw491, ⟨zw343, zw344⟩, zw346, zw347, hd_yX2_isOutIn⟩
theorem zw492 : Cond.instanceMethod yX4_suppose ∈ zwt := zt2 (i := 228) (by decide +kernel) rfl
theorem zw493 : Cond.selects yX4_suppose.cls yX4_suppose yX4_suppose ∈ zwt := zt2 (i := 229) (by decide +kernel) rfl
theorem hd_yX4_suppose : jX4_suppose.1.cls ≠ "java/lang/invoke/MethodHandle" ∧ jX4_suppose.1.cls ≠ "java/lang/invoke/VarHandle" ∧ (parseMethodDescriptor jX4_suppose.1.desc).map (fun d => d.parameters.length) = some 4 := ⟨by decide, by decide, by decide +kernel⟩
theorem zw494 : Cond.methodLink RX6 163 yX4_suppose ∈ zwt := zt2 (i := 227) (by decide +kernel) rfl
theorem zw495 : Cond.initialized yX4_suppose.cls ∈ zwt := zt1 (i := 2) (by decide +kernel) rfl
theorem zw496 : Cond.code yX4_suppose cX4_suppose 5 none ∈ zwt := zt2 (i := 230) (by decide +kernel) rfl
theorem kX6_163 : zcal 0 RX6 163 jX4_suppose 4 := ⟨zw494, ⟨zw492, zw493⟩, zw495, zw496, hd_yX4_suppose⟩
theorem zw497 : Cond.instanceMethod yX4_forgetSupposed ∈ zwt := zt2 (i := 232) (by decide +kernel) rfl
theorem zw498 : Cond.selects yX4_forgetSupposed.cls yX4_forgetSupposed yX4_forgetSupposed ∈ zwt := zt2 (i := 233) (by decide +kernel) rfl
theorem hd_yX4_forgetSupposed : jX4_forgetSupposed.1.cls ≠ "java/lang/invoke/MethodHandle" ∧ jX4_forgetSupposed.1.cls ≠ "java/lang/invoke/VarHandle" ∧ (parseMethodDescriptor jX4_forgetSupposed.1.desc).map (fun d => d.parameters.length) = some 0 := ⟨by decide, by decide, by decide +kernel⟩
theorem zw499 : Cond.methodLink RX6 166 yX4_forgetSupposed ∈ zwt := zt2 (i := 231) (by decide +kernel) rfl
theorem zw500 : Cond.initialized yX4_forgetSupposed.cls ∈ zwt := zt1 (i := 2) (by decide +kernel) rfl
theorem zw501 : Cond.code yX4_forgetSupposed cX4_forgetSupposed 1 none ∈ zwt := zt2 (i := 234) (by decide +kernel) rfl
theorem kX6_166 : zcal 0 RX6 166 jX4_forgetSupposed 0 := ⟨zw499, ⟨zw497, zw498⟩, zw500, zw501, hd_yX4_forgetSupposed⟩
theorem zw502 : Cond.instanceMethod yX1_tell ∈ zwt := zt3 (i := 4) (by decide +kernel) rfl
theorem zw503 : Cond.selects yX1_tell.cls yX1_tell yX1_tell ∈ zwt := zt3 (i := 5) (by decide +kernel) rfl
theorem hd_yX1_tell : jX1_tell.1.cls ≠ "java/lang/invoke/MethodHandle" ∧ jX1_tell.1.cls ≠ "java/lang/invoke/VarHandle" ∧ (parseMethodDescriptor jX1_tell.1.desc).map (fun d => d.parameters.length) = some 2 := ⟨by decide, by decide, by decide +kernel⟩
theorem zw504 : Cond.methodLink RX6 172 yX1_tell ∈ zwt := zt3 (i := 3) (by decide +kernel) rfl
theorem zw505 : Cond.initialized yX1_tell.cls ∈ zwt := zt1 (i := 4) (by decide +kernel) rfl
theorem zw506 : Cond.code yX1_tell cX1_tell 3 (some .int) ∈ zwt := zt3 (i := 6) (by decide +kernel) rfl
theorem kX6_172 : zcal 0 RX6 172 jX1_tell 2 := ⟨zw504, ⟨zw502, zw503⟩, zw505, zw506, hd_yX1_tell⟩
theorem zw507 : Cond.instanceMethod yX5_livingAt ∈ zwt := zt3 (i := 14) (by decide +kernel) rfl
theorem zw508 : Cond.selects yX5_livingAt.cls yX5_livingAt yX5_livingAt ∈ zwt := zt3 (i := 15) (by decide +kernel) rfl
theorem hd_yX5_livingAt : jX5_livingAt.1.cls ≠ "java/lang/invoke/MethodHandle" ∧ jX5_livingAt.1.cls ≠ "java/lang/invoke/VarHandle" ∧ (parseMethodDescriptor jX5_livingAt.1.desc).map (fun d => d.parameters.length) = some 1 := ⟨by decide, by decide, by decide +kernel⟩
theorem zw509 : Cond.methodLink RX6 181 yX5_livingAt ∈ zwt := zt3 (i := 13) (by decide +kernel) rfl
theorem zw510 : Cond.initialized yX5_livingAt.cls ∈ zwt := zt1 (i := 5) (by decide +kernel) rfl
theorem zw511 : Cond.code yX5_livingAt cX5_livingAt 2 (some .int) ∈ zwt := zt3 (i := 16) (by decide +kernel) rfl
theorem kX6_181 : zcal 0 RX6 181 jX5_livingAt 1 := ⟨zw509, ⟨zw507, zw508⟩, zw510, zw511, hd_yX5_livingAt⟩
theorem zw512 : Cond.instanceMethod yX5_sumOver ∈ zwt := zt3 (i := 18) (by decide +kernel) rfl
theorem zw513 : Cond.selects yX5_sumOver.cls yX5_sumOver yX5_sumOver ∈ zwt := zt3 (i := 19) (by decide +kernel) rfl
theorem hd_yX5_sumOver : jX5_sumOver.1.cls ≠ "java/lang/invoke/MethodHandle" ∧ jX5_sumOver.1.cls ≠ "java/lang/invoke/VarHandle" ∧ (parseMethodDescriptor jX5_sumOver.1.desc).map (fun d => d.parameters.length) = some 4 := ⟨by decide, by decide, by decide +kernel⟩
theorem zw514 : Cond.methodLink RX6 184 yX5_sumOver ∈ zwt := zt3 (i := 17) (by decide +kernel) rfl
theorem zw515 : Cond.initialized yX5_sumOver.cls ∈ zwt := zt1 (i := 5) (by decide +kernel) rfl
theorem zw516 : Cond.code yX5_sumOver cX5_sumOver 9 (some .long) ∈ zwt := zt3 (i := 20) (by decide +kernel) rfl
theorem kX6_184 : zcal 0 RX6 184 jX5_sumOver 4 := ⟨zw514, ⟨zw512, zw513⟩, zw515, zw516, hd_yX5_sumOver⟩
theorem zw517 : Cond.static yX6_greatestDivisor ∈ zwt := zt3 (i := 27) (by decide +kernel) rfl
theorem hd_yX6_greatestDivisor : jX6_greatestDivisor.1.cls ≠ "java/lang/invoke/MethodHandle" ∧ jX6_greatestDivisor.1.cls ≠ "java/lang/invoke/VarHandle" ∧ (parseMethodDescriptor jX6_greatestDivisor.1.desc).map (fun d => d.parameters.length) = some 2 := ⟨by decide, by decide, by decide +kernel⟩
theorem zw518 : Cond.methodLink RX6 194 yX6_greatestDivisor ∈ zwt := zt3 (i := 26) (by decide +kernel) rfl
theorem zw519 : Cond.initialized yX6_greatestDivisor.cls ∈ zwt := zt1 (i := 1) (by decide +kernel) rfl
theorem zw520 : Cond.code yX6_greatestDivisor cX6_greatestDivisor 11 (some .long) ∈ zwt := zt3 (i := 28) (by decide +kernel) rfl
theorem kX6_194 : zcal 1 RX6 194 jX6_greatestDivisor 2 := ⟨zw518, zw517, zw519, zw520, hd_yX6_greatestDivisor⟩
theorem zw521 : Cond.instanceMethod yX6_shareOf ∈ zwt := zt3 (i := 38) (by decide +kernel) rfl
theorem zw522 : Cond.selects yX6_shareOf.cls yX6_shareOf yX6_shareOf ∈ zwt := zt0 (i := 13) (by decide +kernel) rfl
theorem hd_yX6_shareOf : jX6_shareOf.1.cls ≠ "java/lang/invoke/MethodHandle" ∧ jX6_shareOf.1.cls ≠ "java/lang/invoke/VarHandle" ∧ (parseMethodDescriptor jX6_shareOf.1.desc).map (fun d => d.parameters.length) = some 2 := ⟨by decide, by decide, by decide +kernel⟩
theorem zw523 : Cond.methodLink RX6 201 yX6_shareOf ∈ zwt := zt3 (i := 36) (by decide +kernel) rfl
theorem zw524 : Cond.initialized yX6_shareOf.cls ∈ zwt := zt1 (i := 1) (by decide +kernel) rfl
theorem zw525 : Cond.code yX6_shareOf cX6_shareOf 3 (some .int) ∈ zwt := zt3 (i := 39) (by decide +kernel) rfl
theorem kX6_201 : zcal 0 RX6 201 jX6_shareOf 2 := ⟨zw523, ⟨zw521, zw522⟩, zw524, zw525, hd_yX6_shareOf⟩
theorem zw526 : Cond.instanceMethod yX6_coinsPaid ∈ zwt := zt3 (i := 54) (by decide +kernel) rfl
theorem zw527 : Cond.selects yX6_coinsPaid.cls yX6_coinsPaid yX6_coinsPaid ∈ zwt := zt0 (i := 14) (by decide +kernel) rfl
theorem hd_yX6_coinsPaid : jX6_coinsPaid.1.cls ≠ "java/lang/invoke/MethodHandle" ∧ jX6_coinsPaid.1.cls ≠ "java/lang/invoke/VarHandle" ∧ (parseMethodDescriptor jX6_coinsPaid.1.desc).map (fun d => d.parameters.length) = some 0 := ⟨by decide, by decide, by decide +kernel⟩
theorem zw528 : Cond.methodLink RX6 214 yX6_coinsPaid ∈ zwt := zt3 (i := 52) (by decide +kernel) rfl
theorem zw529 : Cond.initialized yX6_coinsPaid.cls ∈ zwt := zt1 (i := 1) (by decide +kernel) rfl
theorem zw530 : Cond.code yX6_coinsPaid cX6_coinsPaid 3 (some .int) ∈ zwt := zt3 (i := 55) (by decide +kernel) rfl
theorem kX6_214 : zcal 0 RX6 214 jX6_coinsPaid 0 := ⟨zw528, ⟨zw526, zw527⟩, zw529, zw530, hd_yX6_coinsPaid⟩
theorem zw531 : Cond.instanceMethod yX6_coinsBooked ∈ zwt := zt3 (i := 58) (by decide +kernel) rfl
theorem zw532 : Cond.selects yX6_coinsBooked.cls yX6_coinsBooked yX6_coinsBooked ∈ zwt := zt0 (i := 15) (by decide +kernel) rfl
theorem hd_yX6_coinsBooked : jX6_coinsBooked.1.cls ≠ "java/lang/invoke/MethodHandle" ∧ jX6_coinsBooked.1.cls ≠ "java/lang/invoke/VarHandle" ∧ (parseMethodDescriptor jX6_coinsBooked.1.desc).map (fun d => d.parameters.length) = some 0 := ⟨by decide, by decide, by decide +kernel⟩
theorem zw533 : Cond.methodLink RX6 217 yX6_coinsBooked ∈ zwt := zt3 (i := 56) (by decide +kernel) rfl
theorem zw534 : Cond.initialized yX6_coinsBooked.cls ∈ zwt := zt1 (i := 1) (by decide +kernel) rfl
theorem zw535 : Cond.code yX6_coinsBooked cX6_coinsBooked 3 (some .int) ∈ zwt := zt3 (i := 59) (by decide +kernel) rfl
theorem kX6_217 : zcal 0 RX6 217 jX6_coinsBooked 0 := ⟨zw533, ⟨zw531, zw532⟩, zw534, zw535, hd_yX6_coinsBooked⟩
theorem zw536 : Cond.instanceMethod yX6_membersOut ∈ zwt := zt3 (i := 62) (by decide +kernel) rfl
theorem zw537 : Cond.selects yX6_membersOut.cls yX6_membersOut yX6_membersOut ∈ zwt := zt0 (i := 16) (by decide +kernel) rfl
theorem hd_yX6_membersOut : jX6_membersOut.1.cls ≠ "java/lang/invoke/MethodHandle" ∧ jX6_membersOut.1.cls ≠ "java/lang/invoke/VarHandle" ∧ (parseMethodDescriptor jX6_membersOut.1.desc).map (fun d => d.parameters.length) = some 0 := ⟨by decide, by decide, by decide +kernel⟩
theorem zw538 : Cond.methodLink RX6 220 yX6_membersOut ∈ zwt := zt3 (i := 60) (by decide +kernel) rfl
theorem zw539 : Cond.initialized yX6_membersOut.cls ∈ zwt := zt1 (i := 1) (by decide +kernel) rfl
theorem zw540 : Cond.code yX6_membersOut cX6_membersOut 3 (some .int) ∈ zwt := zt3 (i := 63) (by decide +kernel) rfl
theorem kX6_220 : zcal 0 RX6 220 jX6_membersOut 0 := ⟨zw538, ⟨zw536, zw537⟩, zw539, zw540, hd_yX6_membersOut⟩
theorem zw541 : Cond.methodLink RX6 229 yX0_goOver ∈ zwt := zt2 (i := 91) (by decide +kernel) rfl
theorem kX6_229 : zcal 0 RX6 229 jX0_goOver 4 := ⟨zw541, ⟨zw313, zw314⟩, zw316, zw317, hd_yX0_goOver⟩
theorem zw542 : Cond.instanceMethod yX2_differencesUpTo ∈ zwt := zt2 (i := 129) (by decide +kernel) rfl
theorem zw543 : Cond.selects yX2_differencesUpTo.cls yX2_differencesUpTo yX2_differencesUpTo ∈ zwt := zt2 (i := 130) (by decide +kernel) rfl
theorem hd_yX2_differencesUpTo : jX2_differencesUpTo.1.cls ≠ "java/lang/invoke/MethodHandle" ∧ jX2_differencesUpTo.1.cls ≠ "java/lang/invoke/VarHandle" ∧ (parseMethodDescriptor jX2_differencesUpTo.1.desc).map (fun d => d.parameters.length) = some 1 := ⟨by decide, by decide, by decide +kernel⟩
theorem zw544 : Cond.methodLink RX6 233 yX2_differencesUpTo ∈ zwt := zt2 (i := 128) (by decide +kernel) rfl
theorem zw545 : Cond.initialized yX2_differencesUpTo.cls ∈ zwt := zt1 (i := 7) (by decide +kernel) rfl
theorem zw546 : Cond.code yX2_differencesUpTo cX2_differencesUpTo 4 (some .int) ∈ zwt := zt2 (i := 131) (by decide +kernel) rfl
theorem kX6_233 : zcal 0 RX6 233 jX2_differencesUpTo 1 := ⟨zw544, ⟨zw542, zw543⟩, zw545, zw546, hd_yX2_differencesUpTo⟩
theorem zw547 : Cond.instanceMethod yX1_makeRoom ∈ zwt := zt2 (i := 141) (by decide +kernel) rfl
theorem zw548 : Cond.selects yX1_makeRoom.cls yX1_makeRoom yX1_makeRoom ∈ zwt := zt2 (i := 142) (by decide +kernel) rfl
theorem hd_yX1_makeRoom : jX1_makeRoom.1.cls ≠ "java/lang/invoke/MethodHandle" ∧ jX1_makeRoom.1.cls ≠ "java/lang/invoke/VarHandle" ∧ (parseMethodDescriptor jX1_makeRoom.1.desc).map (fun d => d.parameters.length) = some 1 := ⟨by decide, by decide, by decide +kernel⟩
theorem zw549 : Cond.methodLink RX6 236 yX1_makeRoom ∈ zwt := zt2 (i := 140) (by decide +kernel) rfl
theorem zw550 : Cond.initialized yX1_makeRoom.cls ∈ zwt := zt1 (i := 4) (by decide +kernel) rfl
theorem zw551 : Cond.code yX1_makeRoom cX1_makeRoom 3 none ∈ zwt := zt2 (i := 143) (by decide +kernel) rfl
theorem kX6_236 : zcal 0 RX6 236 jX1_makeRoom 1 := ⟨zw549, ⟨zw547, zw548⟩, zw550, zw551, hd_yX1_makeRoom⟩
theorem zw552 : Cond.methodLink RX6 239 yX2_differenceIn ∈ zwt := zt2 (i := 161) (by decide +kernel) rfl
theorem kX6_239 : zcal 0 RX6 239 jX2_differenceIn 1 := ⟨zw552, ⟨zw362, zw363⟩, zw365, zw366, hd_yX2_differenceIn⟩
theorem zw553 : Cond.instanceMethod yX1_add ∈ zwt := zt2 (i := 163) (by decide +kernel) rfl
theorem zw554 : Cond.selects yX1_add.cls yX1_add yX1_add ∈ zwt := zt2 (i := 164) (by decide +kernel) rfl
theorem hd_yX1_add : jX1_add.1.cls ≠ "java/lang/invoke/MethodHandle" ∧ jX1_add.1.cls ≠ "java/lang/invoke/VarHandle" ∧ (parseMethodDescriptor jX1_add.1.desc).map (fun d => d.parameters.length) = some 4 := ⟨by decide, by decide, by decide +kernel⟩
theorem zw555 : Cond.methodLink RX6 242 yX1_add ∈ zwt := zt2 (i := 162) (by decide +kernel) rfl
theorem zw556 : Cond.initialized yX1_add.cls ∈ zwt := zt1 (i := 4) (by decide +kernel) rfl
theorem zw557 : Cond.code yX1_add cX1_add 6 none ∈ zwt := zt2 (i := 165) (by decide +kernel) rfl
theorem kX6_242 : zcal 0 RX6 242 jX1_add 4 := ⟨zw555, ⟨zw553, zw554⟩, zw556, zw557, hd_yX1_add⟩
theorem zw558 : Cond.instanceMethod yX2_bookDifferenceIn ∈ zwt := zt2 (i := 167) (by decide +kernel) rfl
theorem zw559 : Cond.selects yX2_bookDifferenceIn.cls yX2_bookDifferenceIn yX2_bookDifferenceIn ∈ zwt := zt2 (i := 168) (by decide +kernel) rfl
theorem hd_yX2_bookDifferenceIn : jX2_bookDifferenceIn.1.cls ≠ "java/lang/invoke/MethodHandle" ∧ jX2_bookDifferenceIn.1.cls ≠ "java/lang/invoke/VarHandle" ∧ (parseMethodDescriptor jX2_bookDifferenceIn.1.desc).map (fun d => d.parameters.length) = some 1 := ⟨by decide, by decide, by decide +kernel⟩
theorem zw560 : Cond.methodLink RX6 243 yX2_bookDifferenceIn ∈ zwt := zt2 (i := 166) (by decide +kernel) rfl
theorem zw561 : Cond.initialized yX2_bookDifferenceIn.cls ∈ zwt := zt1 (i := 7) (by decide +kernel) rfl
theorem zw562 : Cond.code yX2_bookDifferenceIn cX2_bookDifferenceIn 2 none ∈ zwt := zt2 (i := 169) (by decide +kernel) rfl
theorem kX6_243 : zcal 0 RX6 243 jX2_bookDifferenceIn 1 := ⟨zw560, ⟨zw558, zw559⟩, zw561, zw562, hd_yX2_bookDifferenceIn⟩
theorem zw563 : Cond.static yX7_in ∈ zwt := zt3 (i := 176) (by decide +kernel) rfl
theorem hd_yX7_in : jX7_in.1.cls ≠ "java/lang/invoke/MethodHandle" ∧ jX7_in.1.cls ≠ "java/lang/invoke/VarHandle" ∧ (parseMethodDescriptor jX7_in.1.desc).map (fun d => d.parameters.length) = some 3 := ⟨by decide, by decide, by decide +kernel⟩
theorem zw564 : Cond.methodLink RX7 96 yX7_in ∈ zwt := zt3 (i := 175) (by decide +kernel) rfl
theorem zw565 : Cond.initialized yX7_in.cls ∈ zwt := zt1 (i := 6) (by decide +kernel) rfl
theorem zw566 : Cond.code yX7_in cX7_in 3 (some .boolean) ∈ zwt := zt3 (i := 177) (by decide +kernel) rfl
theorem kX7_96 : zcal 1 RX7 96 jX7_in 3 := ⟨zw564, zw563, zw565, zw566, hd_yX7_in⟩
theorem zw567 : Cond.static yX7_atFirst ∈ zwt := zt3 (i := 196) (by decide +kernel) rfl
theorem hd_yX7_atFirst : jX7_atFirst.1.cls ≠ "java/lang/invoke/MethodHandle" ∧ jX7_atFirst.1.cls ≠ "java/lang/invoke/VarHandle" ∧ (parseMethodDescriptor jX7_atFirst.1.desc).map (fun d => d.parameters.length) = some 1 := ⟨by decide, by decide, by decide +kernel⟩
theorem zw568 : Cond.methodLink RX7 103 yX7_atFirst ∈ zwt := zt3 (i := 195) (by decide +kernel) rfl
theorem zw569 : Cond.initialized yX7_atFirst.cls ∈ zwt := zt1 (i := 6) (by decide +kernel) rfl
theorem zw570 : Cond.code yX7_atFirst cX7_atFirst 1 (some .int) ∈ zwt := zt3 (i := 197) (by decide +kernel) rfl
theorem kX7_103 : zcal 1 RX7 103 jX7_atFirst 1 := ⟨zw568, zw567, zw569, zw570, hd_yX7_atFirst⟩
theorem zw571 : Cond.instanceMethod yX7_inForce ∈ zwt := zt3 (i := 193) (by decide +kernel) rfl
theorem zw572 : Cond.selects yX7_inForce.cls yX7_inForce yX7_inForce ∈ zwt := zt0 (i := 19) (by decide +kernel) rfl
theorem hd_yX7_inForce : jX7_inForce.1.cls ≠ "java/lang/invoke/MethodHandle" ∧ jX7_inForce.1.cls ≠ "java/lang/invoke/VarHandle" ∧ (parseMethodDescriptor jX7_inForce.1.desc).map (fun d => d.parameters.length) = some 4 := ⟨by decide, by decide, by decide +kernel⟩
theorem zw573 : Cond.methodLink RX7 110 yX7_inForce ∈ zwt := zt3 (i := 191) (by decide +kernel) rfl
theorem zw574 : Cond.initialized yX7_inForce.cls ∈ zwt := zt1 (i := 6) (by decide +kernel) rfl
theorem zw575 : Cond.code yX7_inForce cX7_inForce 8 (some .int) ∈ zwt := zt3 (i := 194) (by decide +kernel) rfl
theorem kX7_110 : zcal 0 RX7 110 jX7_inForce 4 := ⟨zw573, ⟨zw571, zw572⟩, zw574, zw575, hd_yX7_inForce⟩
theorem zw576 : Cond.instanceMethod yX7_value ∈ zwt := zt3 (i := 204) (by decide +kernel) rfl
theorem zw577 : Cond.selects yX7_value.cls yX7_value yX7_value ∈ zwt := zt0 (i := 21) (by decide +kernel) rfl
theorem hd_yX7_value : jX7_value.1.cls ≠ "java/lang/invoke/MethodHandle" ∧ jX7_value.1.cls ≠ "java/lang/invoke/VarHandle" ∧ (parseMethodDescriptor jX7_value.1.desc).map (fun d => d.parameters.length) = some 2 := ⟨by decide, by decide, by decide +kernel⟩
theorem zw578 : Cond.methodLink RX7 114 yX7_value ∈ zwt := zt3 (i := 202) (by decide +kernel) rfl
theorem zw579 : Cond.initialized yX7_value.cls ∈ zwt := zt1 (i := 6) (by decide +kernel) rfl
theorem zw580 : Cond.code yX7_value cX7_value 3 (some .int) ∈ zwt := zt3 (i := 205) (by decide +kernel) rfl
theorem kX7_114 : zcal 0 RX7 114 jX7_value 2 := ⟨zw578, ⟨zw576, zw577⟩, zw579, zw580, hd_yX7_value⟩
theorem zw581 : Cond.instanceMethod yX7_owes ∈ zwt := zt3 (i := 200) (by decide +kernel) rfl
theorem zw582 : Cond.selects yX7_owes.cls yX7_owes yX7_owes ∈ zwt := zt0 (i := 20) (by decide +kernel) rfl
theorem hd_yX7_owes : jX7_owes.1.cls ≠ "java/lang/invoke/MethodHandle" ∧ jX7_owes.1.cls ≠ "java/lang/invoke/VarHandle" ∧ (parseMethodDescriptor jX7_owes.1.desc).map (fun d => d.parameters.length) = some 2 := ⟨by decide, by decide, by decide +kernel⟩
theorem zw583 : Cond.methodLink RX7 118 yX7_owes ∈ zwt := zt3 (i := 198) (by decide +kernel) rfl
theorem zw584 : Cond.initialized yX7_owes.cls ∈ zwt := zt1 (i := 6) (by decide +kernel) rfl
theorem zw585 : Cond.code yX7_owes cX7_owes 5 (some .int) ∈ zwt := zt3 (i := 201) (by decide +kernel) rfl
theorem kX7_118 : zcal 0 RX7 118 jX7_owes 2 := ⟨zw583, ⟨zw581, zw582⟩, zw584, zw585, hd_yX7_owes⟩
theorem zw586 : Cond.instanceMethod yX7_isOut ∈ zwt := zt3 (i := 238) (by decide +kernel) rfl
theorem zw587 : Cond.selects yX7_isOut.cls yX7_isOut yX7_isOut ∈ zwt := zt0 (i := 24) (by decide +kernel) rfl
theorem hd_yX7_isOut : jX7_isOut.1.cls ≠ "java/lang/invoke/MethodHandle" ∧ jX7_isOut.1.cls ≠ "java/lang/invoke/VarHandle" ∧ (parseMethodDescriptor jX7_isOut.1.desc).map (fun d => d.parameters.length) = some 2 := ⟨by decide, by decide, by decide +kernel⟩
theorem zw588 : Cond.methodLink RX7 124 yX7_isOut ∈ zwt := zt3 (i := 236) (by decide +kernel) rfl
theorem zw589 : Cond.initialized yX7_isOut.cls ∈ zwt := zt1 (i := 6) (by decide +kernel) rfl
theorem zw590 : Cond.code yX7_isOut cX7_isOut 3 (some .boolean) ∈ zwt := zt3 (i := 239) (by decide +kernel) rfl
theorem kX7_124 : zcal 0 RX7 124 jX7_isOut 2 := ⟨zw588, ⟨zw586, zw587⟩, zw589, zw590, hd_yX7_isOut⟩
theorem zw591 : Cond.instanceMethod yX7_grantDay ∈ zwt := zt4 (i := 2) (by decide +kernel) rfl
theorem zw592 : Cond.selects yX7_grantDay.cls yX7_grantDay yX7_grantDay ∈ zwt := zt0 (i := 25) (by decide +kernel) rfl
theorem hd_yX7_grantDay : jX7_grantDay.1.cls ≠ "java/lang/invoke/MethodHandle" ∧ jX7_grantDay.1.cls ≠ "java/lang/invoke/VarHandle" ∧ (parseMethodDescriptor jX7_grantDay.1.desc).map (fun d => d.parameters.length) = some 4 := ⟨by decide, by decide, by decide +kernel⟩
theorem zw593 : Cond.methodLink RX7 128 yX7_grantDay ∈ zwt := zt4 (i := 0) (by decide +kernel) rfl
theorem zw594 : Cond.initialized yX7_grantDay.cls ∈ zwt := zt1 (i := 6) (by decide +kernel) rfl
theorem zw595 : Cond.code yX7_grantDay cX7_grantDay 9 none ∈ zwt := zt4 (i := 3) (by decide +kernel) rfl
theorem kX7_128 : zcal 0 RX7 128 jX7_grantDay 4 := ⟨zw593, ⟨zw591, zw592⟩, zw594, zw595, hd_yX7_grantDay⟩
theorem zw596 : Cond.instanceMethod yX7_isMember ∈ zwt := zt3 (i := 184) (by decide +kernel) rfl
theorem zw597 : Cond.selects yX7_isMember.cls yX7_isMember yX7_isMember ∈ zwt := zt0 (i := 17) (by decide +kernel) rfl
theorem hd_yX7_isMember : jX7_isMember.1.cls ≠ "java/lang/invoke/MethodHandle" ∧ jX7_isMember.1.cls ≠ "java/lang/invoke/VarHandle" ∧ (parseMethodDescriptor jX7_isMember.1.desc).map (fun d => d.parameters.length) = some 1 := ⟨by decide, by decide, by decide +kernel⟩
theorem zw598 : Cond.methodLink RX7 132 yX7_isMember ∈ zwt := zt3 (i := 182) (by decide +kernel) rfl
theorem zw599 : Cond.initialized yX7_isMember.cls ∈ zwt := zt1 (i := 6) (by decide +kernel) rfl
theorem zw600 : Cond.code yX7_isMember cX7_isMember 2 (some .boolean) ∈ zwt := zt3 (i := 185) (by decide +kernel) rfl
theorem kX7_132 : zcal 0 RX7 132 jX7_isMember 1 := ⟨zw598, ⟨zw596, zw597⟩, zw599, zw600, hd_yX7_isMember⟩
theorem zw601 : Cond.instanceMethod yX7_know ∈ zwt := zt3 (i := 189) (by decide +kernel) rfl
theorem zw602 : Cond.selects yX7_know.cls yX7_know yX7_know ∈ zwt := zt0 (i := 18) (by decide +kernel) rfl
theorem hd_yX7_know : jX7_know.1.cls ≠ "java/lang/invoke/MethodHandle" ∧ jX7_know.1.cls ≠ "java/lang/invoke/VarHandle" ∧ (parseMethodDescriptor jX7_know.1.desc).map (fun d => d.parameters.length) = some 2 := ⟨by decide, by decide, by decide +kernel⟩
theorem zw603 : Cond.methodLink RX7 140 yX7_know ∈ zwt := zt3 (i := 187) (by decide +kernel) rfl
theorem zw604 : Cond.initialized yX7_know.cls ∈ zwt := zt1 (i := 6) (by decide +kernel) rfl
theorem zw605 : Cond.code yX7_know cX7_know 5 none ∈ zwt := zt3 (i := 190) (by decide +kernel) rfl
theorem kX7_140 : zcal 0 RX7 140 jX7_know 2 := ⟨zw603, ⟨zw601, zw602⟩, zw604, zw605, hd_yX7_know⟩
theorem zw606 : Cond.static yX7_isValue ∈ zwt := zt3 (i := 214) (by decide +kernel) rfl
theorem hd_yX7_isValue : jX7_isValue.1.cls ≠ "java/lang/invoke/MethodHandle" ∧ jX7_isValue.1.cls ≠ "java/lang/invoke/VarHandle" ∧ (parseMethodDescriptor jX7_isValue.1.desc).map (fun d => d.parameters.length) = some 2 := ⟨by decide, by decide, by decide +kernel⟩
theorem zw607 : Cond.methodLink RX7 144 yX7_isValue ∈ zwt := zt3 (i := 213) (by decide +kernel) rfl
theorem zw608 : Cond.initialized yX7_isValue.cls ∈ zwt := zt1 (i := 6) (by decide +kernel) rfl
theorem zw609 : Cond.code yX7_isValue cX7_isValue 2 (some .boolean) ∈ zwt := zt3 (i := 215) (by decide +kernel) rfl
theorem kX7_144 : zcal 1 RX7 144 jX7_isValue 2 := ⟨zw607, zw606, zw608, zw609, hd_yX7_isValue⟩
theorem zw610 : Cond.static yX7_isRule ∈ zwt := zt3 (i := 211) (by decide +kernel) rfl
theorem hd_yX7_isRule : jX7_isRule.1.cls ≠ "java/lang/invoke/MethodHandle" ∧ jX7_isRule.1.cls ≠ "java/lang/invoke/VarHandle" ∧ (parseMethodDescriptor jX7_isRule.1.desc).map (fun d => d.parameters.length) = some 3 := ⟨by decide, by decide, by decide +kernel⟩
theorem zw611 : Cond.methodLink RX7 147 yX7_isRule ∈ zwt := zt3 (i := 210) (by decide +kernel) rfl
theorem zw612 : Cond.initialized yX7_isRule.cls ∈ zwt := zt1 (i := 6) (by decide +kernel) rfl
theorem zw613 : Cond.code yX7_isRule cX7_isRule 3 (some .boolean) ∈ zwt := zt3 (i := 212) (by decide +kernel) rfl
theorem kX7_147 : zcal 1 RX7 147 jX7_isRule 3 := ⟨zw611, zw610, zw612, zw613, hd_yX7_isRule⟩
theorem zw614 : Cond.instanceMethod yX7_write ∈ zwt := zt3 (i := 218) (by decide +kernel) rfl
theorem zw615 : Cond.selects yX7_write.cls yX7_write yX7_write ∈ zwt := zt0 (i := 22) (by decide +kernel) rfl
theorem hd_yX7_write : jX7_write.1.cls ≠ "java/lang/invoke/MethodHandle" ∧ jX7_write.1.cls ≠ "java/lang/invoke/VarHandle" ∧ (parseMethodDescriptor jX7_write.1.desc).map (fun d => d.parameters.length) = some 3 := ⟨by decide, by decide, by decide +kernel⟩
theorem zw616 : Cond.methodLink RX7 150 yX7_write ∈ zwt := zt3 (i := 216) (by decide +kernel) rfl
theorem zw617 : Cond.initialized yX7_write.cls ∈ zwt := zt1 (i := 6) (by decide +kernel) rfl
theorem zw618 : Cond.code yX7_write cX7_write 4 none ∈ zwt := zt3 (i := 219) (by decide +kernel) rfl
theorem kX7_150 : zcal 0 RX7 150 jX7_write 3 := ⟨zw616, ⟨zw614, zw615⟩, zw617, zw618, hd_yX7_write⟩
theorem zw619 : Cond.instanceMethod yX7_go ∈ zwt := zt3 (i := 234) (by decide +kernel) rfl
theorem zw620 : Cond.selects yX7_go.cls yX7_go yX7_go ∈ zwt := zt0 (i := 23) (by decide +kernel) rfl
theorem hd_yX7_go : jX7_go.1.cls ≠ "java/lang/invoke/MethodHandle" ∧ jX7_go.1.cls ≠ "java/lang/invoke/VarHandle" ∧ (parseMethodDescriptor jX7_go.1.desc).map (fun d => d.parameters.length) = some 1 := ⟨by decide, by decide, by decide +kernel⟩
theorem zw621 : Cond.methodLink RX7 154 yX7_go ∈ zwt := zt3 (i := 232) (by decide +kernel) rfl
theorem zw622 : Cond.initialized yX7_go.cls ∈ zwt := zt1 (i := 6) (by decide +kernel) rfl
theorem zw623 : Cond.code yX7_go cX7_go 9 none ∈ zwt := zt3 (i := 235) (by decide +kernel) rfl
theorem kX7_154 : zcal 0 RX7 154 jX7_go 1 := ⟨zw621, ⟨zw619, zw620⟩, zw622, zw623, hd_yX7_go⟩
theorem zw624 : Cond.instanceMethod yX7_book ∈ zwt := zt4 (i := 6) (by decide +kernel) rfl
theorem zw625 : Cond.selects yX7_book.cls yX7_book yX7_book ∈ zwt := zt0 (i := 26) (by decide +kernel) rfl
theorem hd_yX7_book : jX7_book.1.cls ≠ "java/lang/invoke/MethodHandle" ∧ jX7_book.1.cls ≠ "java/lang/invoke/VarHandle" ∧ (parseMethodDescriptor jX7_book.1.desc).map (fun d => d.parameters.length) = some 3 := ⟨by decide, by decide, by decide +kernel⟩
theorem zw626 : Cond.methodLink RX7 161 yX7_book ∈ zwt := zt4 (i := 4) (by decide +kernel) rfl
theorem zw627 : Cond.initialized yX7_book.cls ∈ zwt := zt1 (i := 6) (by decide +kernel) rfl
theorem zw628 : Cond.code yX7_book cX7_book 4 none ∈ zwt := zt4 (i := 7) (by decide +kernel) rfl
theorem kX7_161 : zcal 0 RX7 161 jX7_book 3 := ⟨zw626, ⟨zw624, zw625⟩, zw627, zw628, hd_yX7_book⟩
theorem zw629 : Cond.instanceMethod yX7_isWeek ∈ zwt := zt4 (i := 18) (by decide +kernel) rfl
theorem zw630 : Cond.selects yX7_isWeek.cls yX7_isWeek yX7_isWeek ∈ zwt := zt0 (i := 27) (by decide +kernel) rfl
theorem hd_yX7_isWeek : jX7_isWeek.1.cls ≠ "java/lang/invoke/MethodHandle" ∧ jX7_isWeek.1.cls ≠ "java/lang/invoke/VarHandle" ∧ (parseMethodDescriptor jX7_isWeek.1.desc).map (fun d => d.parameters.length) = some 1 := ⟨by decide, by decide, by decide +kernel⟩
theorem zw631 : Cond.methodLink RX7 164 yX7_isWeek ∈ zwt := zt4 (i := 16) (by decide +kernel) rfl
theorem zw632 : Cond.initialized yX7_isWeek.cls ∈ zwt := zt1 (i := 6) (by decide +kernel) rfl
theorem zw633 : Cond.code yX7_isWeek cX7_isWeek 2 (some .boolean) ∈ zwt := zt4 (i := 19) (by decide +kernel) rfl
theorem kX7_164 : zcal 0 RX7 164 jX7_isWeek 1 := ⟨zw631, ⟨zw629, zw630⟩, zw632, zw633, hd_yX7_isWeek⟩
theorem zw634 : Cond.instanceMethod yX7_livingAt ∈ zwt := zt4 (i := 55) (by decide +kernel) rfl
theorem zw635 : Cond.selects yX7_livingAt.cls yX7_livingAt yX7_livingAt ∈ zwt := zt0 (i := 28) (by decide +kernel) rfl
theorem hd_yX7_livingAt : jX7_livingAt.1.cls ≠ "java/lang/invoke/MethodHandle" ∧ jX7_livingAt.1.cls ≠ "java/lang/invoke/VarHandle" ∧ (parseMethodDescriptor jX7_livingAt.1.desc).map (fun d => d.parameters.length) = some 1 := ⟨by decide, by decide, by decide +kernel⟩
theorem zw636 : Cond.methodLink RX7 169 yX7_livingAt ∈ zwt := zt4 (i := 53) (by decide +kernel) rfl
theorem zw637 : Cond.initialized yX7_livingAt.cls ∈ zwt := zt1 (i := 6) (by decide +kernel) rfl
theorem zw638 : Cond.code yX7_livingAt cX7_livingAt 2 (some .int) ∈ zwt := zt4 (i := 56) (by decide +kernel) rfl
theorem kX7_169 : zcal 0 RX7 169 jX7_livingAt 1 := ⟨zw636, ⟨zw634, zw635⟩, zw637, zw638, hd_yX7_livingAt⟩
theorem zw639 : Cond.instanceMethod yX7_sickAt ∈ zwt := zt4 (i := 59) (by decide +kernel) rfl
theorem zw640 : Cond.selects yX7_sickAt.cls yX7_sickAt yX7_sickAt ∈ zwt := zt0 (i := 29) (by decide +kernel) rfl
theorem hd_yX7_sickAt : jX7_sickAt.1.cls ≠ "java/lang/invoke/MethodHandle" ∧ jX7_sickAt.1.cls ≠ "java/lang/invoke/VarHandle" ∧ (parseMethodDescriptor jX7_sickAt.1.desc).map (fun d => d.parameters.length) = some 1 := ⟨by decide, by decide, by decide +kernel⟩
theorem zw641 : Cond.methodLink RX7 172 yX7_sickAt ∈ zwt := zt4 (i := 57) (by decide +kernel) rfl
theorem zw642 : Cond.initialized yX7_sickAt.cls ∈ zwt := zt1 (i := 6) (by decide +kernel) rfl
theorem zw643 : Cond.code yX7_sickAt cX7_sickAt 2 (some .int) ∈ zwt := zt4 (i := 60) (by decide +kernel) rfl
theorem kX7_172 : zcal 0 RX7 172 jX7_sickAt 1 := ⟨zw641, ⟨zw639, zw640⟩, zw642, zw643, hd_yX7_sickAt⟩
theorem zw644 : Cond.instanceMethod yX7_paidBy ∈ zwt := zt4 (i := 68) (by decide +kernel) rfl
theorem zw645 : Cond.selects yX7_paidBy.cls yX7_paidBy yX7_paidBy ∈ zwt := zt0 (i := 30) (by decide +kernel) rfl
theorem hd_yX7_paidBy : jX7_paidBy.1.cls ≠ "java/lang/invoke/MethodHandle" ∧ jX7_paidBy.1.cls ≠ "java/lang/invoke/VarHandle" ∧ (parseMethodDescriptor jX7_paidBy.1.desc).map (fun d => d.parameters.length) = some 1 := ⟨by decide, by decide, by decide +kernel⟩
theorem zw646 : Cond.methodLink RX7 177 yX7_paidBy ∈ zwt := zt4 (i := 66) (by decide +kernel) rfl
theorem zw647 : Cond.initialized yX7_paidBy.cls ∈ zwt := zt1 (i := 6) (by decide +kernel) rfl
theorem zw648 : Cond.code yX7_paidBy cX7_paidBy 4 (some .int) ∈ zwt := zt4 (i := 69) (by decide +kernel) rfl
theorem kX7_177 : zcal 0 RX7 177 jX7_paidBy 1 := ⟨zw646, ⟨zw644, zw645⟩, zw647, zw648, hd_yX7_paidBy⟩
theorem zw649 : Cond.instanceMethod yX7_bookedFor ∈ zwt := zt4 (i := 72) (by decide +kernel) rfl
theorem zw650 : Cond.selects yX7_bookedFor.cls yX7_bookedFor yX7_bookedFor ∈ zwt := zt0 (i := 31) (by decide +kernel) rfl
theorem hd_yX7_bookedFor : jX7_bookedFor.1.cls ≠ "java/lang/invoke/MethodHandle" ∧ jX7_bookedFor.1.cls ≠ "java/lang/invoke/VarHandle" ∧ (parseMethodDescriptor jX7_bookedFor.1.desc).map (fun d => d.parameters.length) = some 1 := ⟨by decide, by decide, by decide +kernel⟩
theorem zw651 : Cond.methodLink RX7 180 yX7_bookedFor ∈ zwt := zt4 (i := 70) (by decide +kernel) rfl
theorem zw652 : Cond.initialized yX7_bookedFor.cls ∈ zwt := zt1 (i := 6) (by decide +kernel) rfl
theorem zw653 : Cond.code yX7_bookedFor cX7_bookedFor 4 (some .int) ∈ zwt := zt4 (i := 73) (by decide +kernel) rfl
theorem kX7_180 : zcal 0 RX7 180 jX7_bookedFor 1 := ⟨zw651, ⟨zw649, zw650⟩, zw652, zw653, hd_yX7_bookedFor⟩
theorem zw654 : Cond.instanceMethod yX7_outNow ∈ zwt := zt4 (i := 88) (by decide +kernel) rfl
theorem zw655 : Cond.selects yX7_outNow.cls yX7_outNow yX7_outNow ∈ zwt := zt0 (i := 32) (by decide +kernel) rfl
theorem hd_yX7_outNow : jX7_outNow.1.cls ≠ "java/lang/invoke/MethodHandle" ∧ jX7_outNow.1.cls ≠ "java/lang/invoke/VarHandle" ∧ (parseMethodDescriptor jX7_outNow.1.desc).map (fun d => d.parameters.length) = some 0 := ⟨by decide, by decide, by decide +kernel⟩
theorem zw656 : Cond.methodLink RX7 183 yX7_outNow ∈ zwt := zt4 (i := 86) (by decide +kernel) rfl
theorem zw657 : Cond.initialized yX7_outNow.cls ∈ zwt := zt1 (i := 6) (by decide +kernel) rfl
theorem zw658 : Cond.code yX7_outNow cX7_outNow 3 (some .int) ∈ zwt := zt4 (i := 89) (by decide +kernel) rfl
theorem kX7_183 : zcal 0 RX7 183 jX7_outNow 0 := ⟨zw656, ⟨zw654, zw655⟩, zw657, zw658, hd_yX7_outNow⟩
theorem zw659 : Cond.methodLink RX0 38 Lib.Math.min.name ∈ zwt := zt2 (i := 99) (by decide +kernel) rfl
theorem zw660 : Cond.static Lib.Math.min.name ∈ zwt := zt2 (i := 0) (by decide +kernel) rfl
theorem zw661 : Cond.initialized "java/lang/Math" ∈ zwt := zt1 (i := 8) (by decide +kernel) rfl
theorem zw662 : Cond.code Lib.Math.min.name Lib.Math.min.code 2 (some .int) ∈ zwt := zt2 (i := 1) (by decide +kernel) rfl
theorem mX0_38 : zmath RX0 38 Lib.Math.min.name Lib.Math.min.code 2 .int := ⟨zw659, zw660, zw661, zw662⟩
theorem zw663 : Cond.methodLink RX0 62 Lib.Math.max.name ∈ zwt := zt2 (i := 104) (by decide +kernel) rfl
theorem zw664 : Cond.static Lib.Math.max.name ∈ zwt := zt2 (i := 105) (by decide +kernel) rfl
theorem zw665 : Cond.code Lib.Math.max.name Lib.Math.max.code 2 (some .int) ∈ zwt := zt2 (i := 106) (by decide +kernel) rfl
theorem mX0_62 : zmath RX0 62 Lib.Math.max.name Lib.Math.max.code 2 .int := ⟨zw663, zw664, zw661, zw665⟩
theorem zw666 : Cond.methodLink RX1 20 Lib.Math.min.name ∈ zwt := zt2 (i := 145) (by decide +kernel) rfl
theorem mX1_20 : zmath RX1 20 Lib.Math.min.name Lib.Math.min.code 2 .int := ⟨zw666, zw660, zw661, zw662⟩
theorem zw667 : Cond.methodLink RX1 26 Lib.Math.max.name ∈ zwt := zt2 (i := 146) (by decide +kernel) rfl
theorem mX1_26 : zmath RX1 26 Lib.Math.max.name Lib.Math.max.code 2 .int := ⟨zw667, zw664, zw661, zw665⟩
theorem zw668 : Cond.methodLink RX2 48 Lib.Math.min.name ∈ zwt := zt1 (i := 239) (by decide +kernel) rfl
theorem mX2_48 : zmath RX2 48 Lib.Math.min.name Lib.Math.min.code 2 .int := ⟨zw668, zw660, zw661, zw662⟩
theorem zw669 : Cond.methodLink RX5 16 Lib.Math.min.name ∈ zwt := zt3 (i := 21) (by decide +kernel) rfl
theorem mX5_16 : zmath RX5 16 Lib.Math.min.name Lib.Math.min.code 2 .int := ⟨zw669, zw660, zw661, zw662⟩
theorem zw670 : Cond.methodLink RX5 22 Lib.Math.max.name ∈ zwt := zt3 (i := 22) (by decide +kernel) rfl
theorem mX5_22 : zmath RX5 22 Lib.Math.max.name Lib.Math.max.code 2 .int := ⟨zw670, zw664, zw661, zw665⟩
theorem zw671 : Cond.methodLink RX6 188 Lib.MathLoose.abs_long.x ∈ zwt := zt3 (i := 23) (by decide +kernel) rfl
theorem zw672 : Cond.static Lib.MathLoose.abs_long.x ∈ zwt := zt3 (i := 24) (by decide +kernel) rfl
theorem zw673 : Cond.code Lib.MathLoose.abs_long.x Lib.MathLoose.abs_long.code 2 (some .long) ∈ zwt := zt3 (i := 25) (by decide +kernel) rfl
theorem mX6_188 : zmath RX6 188 Lib.MathLoose.abs_long.x Lib.MathLoose.abs_long.code 2 .long := ⟨zw671, zw672, zw661, zw673⟩
theorem zw674 : Cond.methodLink RX6 246 Lib.MathLoose.max_long.x ∈ zwt := zt3 (i := 29) (by decide +kernel) rfl
theorem zw675 : Cond.static Lib.MathLoose.max_long.x ∈ zwt := zt3 (i := 30) (by decide +kernel) rfl
theorem zw676 : Cond.code Lib.MathLoose.max_long.x Lib.MathLoose.max_long.code 4 (some .long) ∈ zwt := zt3 (i := 31) (by decide +kernel) rfl
theorem mX6_246 : zmath RX6 246 Lib.MathLoose.max_long.x Lib.MathLoose.max_long.code 4 .long := ⟨zw674, zw675, zw661, zw676⟩
theorem nX6_lastDayOf : zcaN 1 jX6_lastDayOf 1 := ⟨zw431, zw433, zw434, hd_yX6_lastDayOf⟩
theorem zw677 : Cond.instanceMethod yX4_init ∈ zwt := zt1 (i := 27) (by decide +kernel) rfl
theorem zw678 : Cond.initialized yX4_init.cls ∈ zwt := zt1 (i := 2) (by decide +kernel) rfl
theorem zw679 : Cond.code yX4_init cX4_init 1 none ∈ zwt := zt1 (i := 28) (by decide +kernel) rfl
theorem hd_yX4_init : jX4_init.1.cls ≠ "java/lang/invoke/MethodHandle" ∧ jX4_init.1.cls ≠ "java/lang/invoke/VarHandle" ∧ (parseMethodDescriptor jX4_init.1.desc).map (fun d => d.parameters.length) = some 0 := ⟨by decide, by decide, by decide +kernel⟩
theorem nX4_init : zcaN 2 jX4_init 0 := ⟨⟨zw677, rfl, rfl⟩, zw678, zw679, hd_yX4_init⟩
theorem zw680 : Cond.instanceMethod yX1_init ∈ zwt := zt1 (i := 111) (by decide +kernel) rfl
theorem zw681 : Cond.initialized yX1_init.cls ∈ zwt := zt1 (i := 4) (by decide +kernel) rfl
theorem zw682 : Cond.code yX1_init cX1_init 1 none ∈ zwt := zt1 (i := 112) (by decide +kernel) rfl
theorem hd_yX1_init : jX1_init.1.cls ≠ "java/lang/invoke/MethodHandle" ∧ jX1_init.1.cls ≠ "java/lang/invoke/VarHandle" ∧ (parseMethodDescriptor jX1_init.1.desc).map (fun d => d.parameters.length) = some 0 := ⟨by decide, by decide, by decide +kernel⟩
theorem nX1_init : zcaN 2 jX1_init 0 := ⟨⟨zw680, rfl, rfl⟩, zw681, zw682, hd_yX1_init⟩
theorem zw683 : Cond.classLink RL 10 RX7 ∈ zwt := zt3 (i := 64) (by decide +kernel) rfl
theorem zw684 : Cond.instantiable RX7 33 ∈ zwt := zt3 (i := 65) (by decide +kernel) rfl
theorem zw685 : Cond.initialized RX7 ∈ zwt := zt1 (i := 6) (by decide +kernel) rfl
theorem cL_10 : zcls RL 10 7 33 [.int 0, .int 0, .int 0, .int 0, .int 0, .null, .null, .null, .null, .null, .null, .null, .null, .null, .null, .null, .null, .null, .null, .null, .null, .null, .null, .null, .null, .null, .int 0, .null, .null, .null, .null, .null, .null] := ⟨_, _, tyX7, rfl, zw683, zw684, zw685, zinX7, tyX7_ok, fun j hj => by rcases (show j = 0 ∨ j = 1 ∨ j = 2 ∨ j = 3 ∨ j = 4 ∨ j = 5 ∨ j = 6 ∨ j = 7 ∨ j = 8 ∨ j = 9 ∨ j = 10 ∨ j = 11 ∨ j = 12 ∨ j = 13 ∨ j = 14 ∨ j = 15 ∨ j = 16 ∨ j = 17 ∨ j = 18 ∨ j = 19 ∨ j = 20 ∨ j = 21 ∨ j = 22 ∨ j = 23 ∨ j = 24 ∨ j = 25 ∨ j = 26 ∨ j = 27 ∨ j = 28 ∨ j = 29 ∨ j = 30 ∨ j = 31 ∨ j = 32 by omega) with rfl | rfl | rfl | rfl | rfl | rfl | rfl | rfl | rfl | rfl | rfl | rfl | rfl | rfl | rfl | rfl | rfl | rfl | rfl | rfl | rfl | rfl | rfl | rfl | rfl | rfl | rfl | rfl | rfl | rfl | rfl | rfl | rfl <;> rfl⟩
theorem zw686 : Cond.classLink RL 7 RX6 ∈ zwt := zt1 (i := 12) (by decide +kernel) rfl
theorem zw687 : Cond.instantiable RX6 9 ∈ zwt := zt1 (i := 13) (by decide +kernel) rfl
theorem zw688 : Cond.initialized RX6 ∈ zwt := zt1 (i := 1) (by decide +kernel) rfl
theorem cL_7 : zcls RL 7 6 9 [.null, .null, .null, .null, .null, .null, .int 0, .int 0, .int 0] := ⟨_, _, tyX6, rfl, zw686, zw687, zw688, zinX6, tyX6_ok, fun j hj => by rcases (show j = 0 ∨ j = 1 ∨ j = 2 ∨ j = 3 ∨ j = 4 ∨ j = 5 ∨ j = 6 ∨ j = 7 ∨ j = 8 by omega) with rfl | rfl | rfl | rfl | rfl | rfl | rfl | rfl | rfl <;> rfl⟩
theorem zw689 : Cond.classLink RX6 15 RX3 ∈ zwt := zt1 (i := 22) (by decide +kernel) rfl
theorem zw690 : Cond.instantiable RX3 6 ∈ zwt := zt2 (i := 38) (by decide +kernel) rfl
theorem zw691 : Cond.initialized RX3 ∈ zwt := zt1 (i := 9) (by decide +kernel) rfl
theorem cX6_15 : zcls RX6 15 3 6 [.int 0, .int 0, .int 0, .int 0, .int 0, .null] := ⟨_, _, tyX3, rfl, zw689, zw690, zw691, zinX3, tyX3_ok, fun j hj => by rcases (show j = 0 ∨ j = 1 ∨ j = 2 ∨ j = 3 ∨ j = 4 ∨ j = 5 by omega) with rfl | rfl | rfl | rfl | rfl | rfl <;> rfl⟩
theorem zw692 : Cond.classLink RX6 21 RX4 ∈ zwt := zt1 (i := 24) (by decide +kernel) rfl
theorem zw693 : Cond.instantiable RX4 9 ∈ zwt := zt1 (i := 25) (by decide +kernel) rfl
theorem zw694 : Cond.initialized RX4 ∈ zwt := zt1 (i := 2) (by decide +kernel) rfl
theorem cX6_21 : zcls RX6 21 4 9 [.null, .null, .null, .null, .int 0, .null, .null, .int 0, .int 0] := ⟨_, _, tyX4, rfl, zw692, zw693, zw694, zinX4, tyX4_ok, fun j hj => by rcases (show j = 0 ∨ j = 1 ∨ j = 2 ∨ j = 3 ∨ j = 4 ∨ j = 5 ∨ j = 6 ∨ j = 7 ∨ j = 8 by omega) with rfl | rfl | rfl | rfl | rfl | rfl | rfl | rfl | rfl <;> rfl⟩
theorem zw695 : Cond.classLink RX6 28 RX0 ∈ zwt := zt1 (i := 65) (by decide +kernel) rfl
theorem zw696 : Cond.instantiable RX0 12 ∈ zwt := zt1 (i := 66) (by decide +kernel) rfl
theorem zw697 : Cond.initialized RX0 ∈ zwt := zt1 (i := 3) (by decide +kernel) rfl
theorem cX6_28 : zcls RX6 28 0 12 [.null, .null, .null, .int 0, .int 0, .int 0, .int 0, .int 0, .int 0, .int 0, .int 0, .int 0] := ⟨_, _, tyX0, rfl, zw695, zw696, zw697, zinX0, tyX0_ok, fun j hj => by rcases (show j = 0 ∨ j = 1 ∨ j = 2 ∨ j = 3 ∨ j = 4 ∨ j = 5 ∨ j = 6 ∨ j = 7 ∨ j = 8 ∨ j = 9 ∨ j = 10 ∨ j = 11 by omega) with rfl | rfl | rfl | rfl | rfl | rfl | rfl | rfl | rfl | rfl | rfl | rfl <;> rfl⟩
theorem zw698 : Cond.classLink RX6 37 RX1 ∈ zwt := zt1 (i := 108) (by decide +kernel) rfl
theorem zw699 : Cond.instantiable RX1 2 ∈ zwt := zt1 (i := 109) (by decide +kernel) rfl
theorem zw700 : Cond.initialized RX1 ∈ zwt := zt1 (i := 4) (by decide +kernel) rfl
theorem cX6_37 : zcls RX6 37 1 2 [.null, .int 0] := ⟨_, _, tyX1, rfl, zw698, zw699, zw700, zinX1, tyX1_ok, fun j hj => by rcases (show j = 0 ∨ j = 1 by omega) with rfl | rfl <;> rfl⟩
theorem zw701 : Cond.classLink RX6 44 RX5 ∈ zwt := zt1 (i := 122) (by decide +kernel) rfl
theorem zw702 : Cond.instantiable RX5 2 ∈ zwt := zt1 (i := 123) (by decide +kernel) rfl
theorem zw703 : Cond.initialized RX5 ∈ zwt := zt1 (i := 5) (by decide +kernel) rfl
theorem cX6_44 : zcls RX6 44 5 2 [.null, .null] := ⟨_, _, tyX5, rfl, zw701, zw702, zw703, zinX5, tyX5_ok, fun j hj => by rcases (show j = 0 ∨ j = 1 by omega) with rfl | rfl <;> rfl⟩
theorem zw704 : Cond.classLink RX6 9 RX2 ∈ zwt := zt1 (i := 20) (by decide +kernel) rfl
theorem zw705 : Cond.instantiable RX2 9 ∈ zwt := zt1 (i := 167) (by decide +kernel) rfl
theorem zw706 : Cond.initialized RX2 ∈ zwt := zt1 (i := 7) (by decide +kernel) rfl
theorem cX6_9 : zcls RX6 9 2 9 [.int 0, .int 0, .int 0, .null, .null, .null, .int 0, .int 0, .null] := ⟨_, _, tyX2, rfl, zw704, zw705, zw706, zinX2, tyX2_ok, fun j hj => by rcases (show j = 0 ∨ j = 1 ∨ j = 2 ∨ j = 3 ∨ j = 4 ∨ j = 5 ∨ j = 6 ∨ j = 7 ∨ j = 8 by omega) with rfl | rfl | rfl | rfl | rfl | rfl | rfl | rfl | rfl <;> rfl⟩
theorem zw707 : Cond.arrayClass .int ∈ zwt := zt1 (i := 64) (by decide +kernel) rfl
theorem zw_int : Cond.arrayClass .int ∈ zwt := zw707
theorem zw708 : Cond.arrayClass .boolean ∈ zwt := zt3 (i := 170) (by decide +kernel) rfl
theorem zw_bool : Cond.arrayClass .boolean ∈ zwt := zw708
theorem zw709 : Cond.instanceMethod objectInit ∈ zwt := zt1 (i := 18) (by decide +kernel) rfl
theorem zw_oi : Cond.instanceMethod objectInit ∈ zwt := zw709
theorem zw710 : Cond.code objectInit ⟨#[0xb1]⟩ 1 none ∈ zwt := zt1 (i := 19) (by decide +kernel) rfl
theorem zw_oc : Cond.code objectInit ⟨#[0xb1]⟩ 1 none ∈ zwt := zw710
theorem zw711 : Cond.methodLink RX0 3 objectInit ∈ zwt := zt1 (i := 70) (by decide +kernel) rfl
theorem oX0_3 : Cond.methodLink RX0 3 objectInit ∈ zwt := zw711
theorem zw712 : Cond.methodLink RX1 3 objectInit ∈ zwt := zt1 (i := 113) (by decide +kernel) rfl
theorem oX1_3 : Cond.methodLink RX1 3 objectInit ∈ zwt := zw712
theorem zw713 : Cond.methodLink RX2 3 objectInit ∈ zwt := zt1 (i := 171) (by decide +kernel) rfl
theorem oX2_3 : Cond.methodLink RX2 3 objectInit ∈ zwt := zw713
theorem zw714 : Cond.methodLink RX3 3 objectInit ∈ zwt := zt2 (i := 42) (by decide +kernel) rfl
theorem oX3_3 : Cond.methodLink RX3 3 objectInit ∈ zwt := zw714
theorem zw715 : Cond.methodLink RX4 3 objectInit ∈ zwt := zt1 (i := 29) (by decide +kernel) rfl
theorem oX4_3 : Cond.methodLink RX4 3 objectInit ∈ zwt := zw715
theorem zw716 : Cond.methodLink RX5 1 objectInit ∈ zwt := zt1 (i := 127) (by decide +kernel) rfl
theorem oX5_1 : Cond.methodLink RX5 1 objectInit ∈ zwt := zw716
theorem zw717 : Cond.methodLink RX6 3 objectInit ∈ zwt := zt1 (i := 17) (by decide +kernel) rfl
theorem oX6_3 : Cond.methodLink RX6 3 objectInit ∈ zwt := zw717
theorem zw718 : Cond.methodLink RX7 1 objectInit ∈ zwt := zt3 (i := 69) (by decide +kernel) rfl
theorem oX7_1 : Cond.methodLink RX7 1 objectInit ∈ zwt := zw718
theorem zw719 : Cond.constant RX1 19 (iI (80000)) ∈ zwt := zt2 (i := 144) (by decide +kernel) rfl
theorem qX1_19 : Cond.constant RX1 19 (iI (80000)) ∈ zwt := zw719
theorem zw720 : Cond.constant RX1 35 (iI (-1000000)) ∈ zwt := zt3 (i := 7) (by decide +kernel) rfl
theorem qX1_35 : Cond.constant RX1 35 (iI (-1000000)) ∈ zwt := zw720
theorem zw721 : Cond.constant RX6 65 (iI (-1000000)) ∈ zwt := zt1 (i := 217) (by decide +kernel) rfl
theorem qX6_65 : Cond.constant RX6 65 (iI (-1000000)) ∈ zwt := zw721
theorem zw722 : Cond.constant RX7 136 (iI (-1000000)) ∈ zwt := zt3 (i := 186) (by decide +kernel) rfl
theorem qX7_136 : Cond.constant RX7 136 (iI (-1000000)) ∈ zwt := zw722
theorem zw723 : Cond.constantLong RX6 176 (iL (-1000000)) ∈ zwt := zt3 (i := 12) (by decide +kernel) rfl
theorem qX6_176 : Cond.constantLong RX6 176 (iL (-1000000)) ∈ zwt := zw723
theorem zw724 : Cond.constantLong RX7 167 (iL (-1000000)) ∈ zwt := zt4 (i := 52) (by decide +kernel) rfl
theorem qX7_167 : Cond.constantLong RX7 167 (iL (-1000000)) ∈ zwt := zw724
theorem zw725 : Cond.constantLong RX7 175 (iL (52)) ∈ zwt := zt4 (i := 61) (by decide +kernel) rfl
theorem qX7_175 : Cond.constantLong RX7 175 (iL (52)) ∈ zwt := zw725
theorem zw726 : Cond.fieldLink RX4 46 RX4 (zsn 0) "[I" ∈ zwt := zt2 (i := 15) (by decide +kernel) rfl
theorem sX4_46 : Cond.fieldLink RX4 46 RX4 (zsn 0) "[I" ∈ zwt := zw726
theorem zw727 : Cond.fieldLink RX4 49 RX4 (zsn 1) "[I" ∈ zwt := zt2 (i := 17) (by decide +kernel) rfl
theorem sX4_49 : Cond.fieldLink RX4 49 RX4 (zsn 1) "[I" ∈ zwt := zw727
theorem zw728 : Cond.fieldLink RX4 63 RX4 (zsn 2) "[I" ∈ zwt := zt1 (i := 230) (by decide +kernel) rfl
theorem sX4_63 : Cond.fieldLink RX4 63 RX4 (zsn 2) "[I" ∈ zwt := zw728
