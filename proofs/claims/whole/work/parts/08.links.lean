theorem gwX0 : (u_ws RX0 TX0 5).all goodWord = true := by decide +kernel
theorem wX0 : ∀ w ∈ u_ws RX0 TX0 5, w ∈ wA := fun w h => wA_of (inX0 w h) (List.all_eq_true.mp gwX0 w h)
theorem gwX1 : (u_ws RX1 TX1 14).all goodWord = true := by decide +kernel
theorem wX1 : ∀ w ∈ u_ws RX1 TX1 14, w ∈ wA := fun w h => wA_of (inX1 w h) (List.all_eq_true.mp gwX1 w h)
theorem gwX2 : (u_ws RX2 TX2 3).all goodWord = true := by decide +kernel
theorem wX2 : ∀ w ∈ u_ws RX2 TX2 3, w ∈ wA := fun w h => wA_of (inX2 w h) (List.all_eq_true.mp gwX2 w h)
theorem gwX3 : (u_ws RX3 TX3 3).all goodWord = true := by decide +kernel
theorem wX3 : ∀ w ∈ u_ws RX3 TX3 3, w ∈ wA := fun w h => wA_of (inX3 w h) (List.all_eq_true.mp gwX3 w h)
theorem gwX4 : (u_ws RX4 TX4 4).all goodWord = true := by decide +kernel
theorem wX4 : ∀ w ∈ u_ws RX4 TX4 4, w ∈ wA := fun w h => wA_of (inX4 w h) (List.all_eq_true.mp gwX4 w h)
theorem gwX5 : (u_ws RX5 TX5 4).all goodWord = true := by decide +kernel
theorem wX5 : ∀ w ∈ u_ws RX5 TX5 4, w ∈ wA := fun w h => wA_of (inX5 w h) (List.all_eq_true.mp gwX5 w h)
theorem gwX6 : (u_ws RX6 TX6 2).all goodWord = true := by decide +kernel
theorem wX6 : ∀ w ∈ u_ws RX6 TX6 2, w ∈ wA := fun w h => wA_of (inX6 w h) (List.all_eq_true.mp gwX6 w h)
theorem gwX7 : (u_ws RX7 TX7 7).all goodWord = true := by decide +kernel
theorem wX7 : ∀ w ∈ u_ws RX7 TX7 7, w ∈ wA := fun w h => wA_of (inX7 w h) (List.all_eq_true.mp gwX7 w h)
theorem gwX8 : (u_ws RX8 TX8 8).all goodWord = true := by decide +kernel
theorem wX8 : ∀ w ∈ u_ws RX8 TX8 8, w ∈ wA := fun w h => wA_of (inX8 w h) (List.all_eq_true.mp gwX8 w h)
theorem gwX9 : (u_ws RX9 TX9 29).all goodWord = true := by decide +kernel
theorem wX9 : ∀ w ∈ u_ws RX9 TX9 29, w ∈ wA := fun w h => wA_of (inX9 w h) (List.all_eq_true.mp gwX9 w h)
abbrev mX0_init : MI := (yX0_init, cX0_init, 2, none)
abbrev mX0_addPayment : MI := (yX0_addPayment, cX0_addPayment, 4, none)
abbrev mX0_debtsWithAtLeast : MI := (yX0_debtsWithAtLeast, cX0_debtsWithAtLeast, 5, (some .int))
abbrev mX0_copyFrom : MI := (yX0_copyFrom, cX0_copyFrom, 3, none)
abbrev mX1_init : MI := (yX1_init, cX1_init, 1, none)
abbrev mX1_start : MI := (yX1_start, cX1_start, 4, none)
abbrev mX1_standWith : MI := (yX1_standWith, cX1_standWith, 2, none)
abbrev mX1_goAheadOf : MI := (yX1_goAheadOf, cX1_goAheadOf, 2, none)
abbrev mX1_goBehind : MI := (yX1_goBehind, cX1_goBehind, 4, none)
abbrev mX1_takeUpTo : MI := (yX1_takeUpTo, cX1_takeUpTo, 4, none)
abbrev mX1_nextPayment : MI := (yX1_nextPayment, cX1_nextPayment, 7, (some .int))
abbrev mX1_take : MI := (yX1_take, cX1_take, 3, none)
abbrev mX1_runTo : MI := (yX1_runTo, cX1_runTo, 3, none)
abbrev mX1_runOn : MI := (yX1_runOn, cX1_runOn, 7, none)
abbrev mX1_isOpen : MI := (yX1_isOpen, cX1_isOpen, 2, (some .boolean))
abbrev mX1_sumLeft : MI := (yX1_sumLeft, cX1_sumLeft, 2, (some .long))
abbrev mX1_runLeft : MI := (yX1_runLeft, cX1_runLeft, 2, (some .long))
abbrev mX1_leftOf : MI := (yX1_leftOf, cX1_leftOf, 2, (some .long))
abbrev mX1_owedNow : MI := (yX1_owedNow, cX1_owedNow, 4, (some .long))
abbrev mX1_isLeftAlike : MI := (yX1_isLeftAlike, cX1_isLeftAlike, 3, (some .boolean))
abbrev mX1_findDead : MI := (yX1_findDead, cX1_findDead, 4, none)
abbrev mX1_orderOpen : MI := (yX1_orderOpen, cX1_orderOpen, 5, (some .int))
abbrev mX1_compareByKeys : MI := (yX1_compareByKeys, cX1_compareByKeys, 7, (some .int))
abbrev mX1_firstIf : MI := (yX1_firstIf, cX1_firstIf, 2, (some .int))
abbrev mX1_chosenDebt : MI := (yX1_chosenDebt, cX1_chosenDebt, 2, (some .int))
abbrev mX1_heedsWord : MI := (yX1_heedsWord, cX1_heedsWord, 2, (some .boolean))
abbrev mX1_distribute : MI := (yX1_distribute, cX1_distribute, 10, none)
abbrev mX1_share : MI := (yX1_share, cX1_share, 10, (some .long))
abbrev mX1_give : MI := (yX1_give, cX1_give, 8, (some .long))
abbrev mX2_init : MI := (yX2_init, cX2_init, 1, none)
abbrev mX2_begin : MI := (yX2_begin, cX2_begin, 5, none)
abbrev mX2_isSecured : MI := (yX2_isSecured, cX2_isSecured, 1, (some .boolean))
abbrev mX2_copyFrom : MI := (yX2_copyFrom, cX2_copyFrom, 2, none)
abbrev mX3_init : MI := (yX3_init, cX3_init, 1, none)
abbrev mX3_has : MI := (yX3_has, cX3_has, 2, (some .boolean))
abbrev mX3_read : MI := (yX3_read, cX3_read, 3, none)
abbrev mX3_copyFrom : MI := (yX3_copyFrom, cX3_copyFrom, 2, none)
abbrev mX3_bitOf : MI := (yX3_bitOf, cX3_bitOf, 1, (some .int))
abbrev mX4_init : MI := (yX4_init, cX4_init, 1, none)
abbrev mX4_copyFrom : MI := (yX4_copyFrom, cX4_copyFrom, 2, none)
abbrev mX5_init : MI := (yX5_init, cX5_init, 1, none)
abbrev mX5_begin : MI := (yX5_begin, cX5_begin, 3, none)
abbrev mX5_refusal : MI := (yX5_refusal, cX5_refusal, 4, (some .int))
abbrev mX5_write : MI := (yX5_write, cX5_write, 3, none)
abbrev mX6_init : MI := (yX6_init, cX6_init, 1, none)
abbrev mX6_append : MI := (yX6_append, cX6_append, 2, none)
abbrev mX6_fault : MI := (yX6_fault, cX6_fault, 4, (some .int))
abbrev mX7_init : MI := (yX7_init, cX7_init, 2, none)
abbrev mX7_find : MI := (yX7_find, cX7_find, 6, none)
abbrev mX7_tryFrom : MI := (yX7_tryFrom, cX7_tryFrom, 6, none)
abbrev mX7_weigh : MI := (yX7_weigh, cX7_weigh, 3, none)
abbrev mX7_isTriedAhead : MI := (yX7_isTriedAhead, cX7_isTriedAhead, 2, (some .boolean))
abbrev mX8_init : MI := (yX8_init, cX8_init, 2, none)
abbrev mX8_debt : MI := (yX8_debt, cX8_debt, 5, (some .int))
abbrev mX8_set : MI := (yX8_set, cX8_set, 6, (some .int))
abbrev mX8_pay : MI := (yX8_pay, cX8_pay, 3, (some .int))
abbrev mX8_pays : MI := (yX8_pays, cX8_pays, 8, (some .int))
abbrev mX8_word : MI := (yX8_word, cX8_word, 6, (some .int))
abbrev mX8_move : MI := (yX8_move, cX8_move, 4, (some .int))
abbrev mX8_count : MI := (yX8_count, cX8_count, 2, (some .int))
abbrev mX8_type : MI := (yX8_type, cX8_type, 5, (some .int))
abbrev mX8_law : MI := (yX8_law, cX8_law, 3, (some .int))
abbrev mX8_letter : MI := (yX8_letter, cX8_letter, 4, (some .int))
abbrev mX8_left : MI := (yX8_left, cX8_left, 5, (some .long))
abbrev mX8_owed : MI := (yX8_owed, cX8_owed, 3, (some .long))
abbrev mX8_put : MI := (yX8_put, cX8_put, 5, (some .long))
abbrev mX8_paid : MI := (yX8_paid, cX8_paid, 3, (some .int))
abbrev mX8_dead : MI := (yX8_dead, cX8_dead, 4, (some .int))
abbrev mX8_wakes : MI := (yX8_wakes, cX8_wakes, 3, (some .int))
abbrev mX8_free : MI := (yX8_free, cX8_free, 5, (some .int))
abbrev mX8_rank : MI := (yX8_rank, cX8_rank, 5, (some .int))
abbrev mX8_best : MI := (yX8_best, cX8_best, 5, (some .int))
abbrev mX8_least : MI := (yX8_least, cX8_least, 4, (some .long))
abbrev mX8_answer : MI := (yX8_answer, cX8_answer, 10, (some .int))
abbrev mX8_hangs : MI := (yX8_hangs, cX8_hangs, 13, (some .long))
abbrev mX8_plan : MI := (yX8_plan, cX8_plan, 7, (some .long))
abbrev mX8_parts : MI := (yX8_parts, cX8_parts, 2, (some .int))
abbrev mX8_gap : MI := (yX8_gap, cX8_gap, 4, (some .long))
abbrev mX8_judge : MI := (yX8_judge, cX8_judge, 10, (some .int))
abbrev mX8_image : MI := (yX8_image, cX8_image, 1, (some .int))
abbrev mX8_restore : MI := (yX8_restore, cX8_restore, 1, (some .int))
abbrev mX8_sheet : MI := (yX8_sheet, cX8_sheet, 4, (some .int))
abbrev mX8_drop : MI := (yX8_drop, cX8_drop, 2, (some .int))
abbrev mX8_item : MI := (yX8_item, cX8_item, 6, (some .int))
abbrev mX8_within : MI := (yX8_within, cX8_within, 3, (some .boolean))
abbrev mX8_isDay : MI := (yX8_isDay, cX8_isDay, 1, (some .boolean))
abbrev mX8_isPayable : MI := (yX8_isPayable, cX8_isPayable, 2, (some .boolean))
abbrev mX8_isLaw : MI := (yX8_isLaw, cX8_isLaw, 1, (some .boolean))
abbrev mX8_isSheet : MI := (yX8_isSheet, cX8_isSheet, 1, (some .boolean))
abbrev mX8_isLane : MI := (yX8_isLane, cX8_isLane, 1, (some .boolean))
abbrev mX8_isDebt : MI := (yX8_isDebt, cX8_isDebt, 2, (some .boolean))
abbrev mX8_isDebtOrNone : MI := (yX8_isDebtOrNone, cX8_isDebtOrNone, 2, (some .boolean))
abbrev mX8_isPayment : MI := (yX8_isPayment, cX8_isPayment, 2, (some .boolean))
abbrev mX8_dayOrNone : MI := (yX8_dayOrNone, cX8_dayOrNone, 1, (some .int))
abbrev mX8_byteOf : MI := (yX8_byteOf, cX8_byteOf, 3, (some .int))
abbrev mX8_allSigns : MI := (yX8_allSigns, cX8_allSigns, 4, (some .boolean))
abbrev mX8_goBehind : MI := (yX8_goBehind, cX8_goBehind, 3, none)
abbrev mX9_in : MI := (yX9_in, cX9_in, 6, (some .boolean))
abbrev mX9_init : MI := (yX9_init, cX9_init, 2, none)
abbrev mX9_isDay : MI := (yX9_isDay, cX9_isDay, 1, (some .boolean))
abbrev mX9_isDebt : MI := (yX9_isDebt, cX9_isDebt, 2, (some .boolean))
abbrev mX9_isPayment : MI := (yX9_isPayment, cX9_isPayment, 2, (some .boolean))
abbrev mX9_isLaw : MI := (yX9_isLaw, cX9_isLaw, 1, (some .boolean))
abbrev mX9_debt : MI := (yX9_debt, cX9_debt, 6, (some .int))
abbrev mX9_set : MI := (yX9_set, cX9_set, 7, (some .int))
abbrev mX9_addPayment : MI := (yX9_addPayment, cX9_addPayment, 4, none)
abbrev mX9_pay : MI := (yX9_pay, cX9_pay, 3, (some .int))
abbrev mX9_word : MI := (yX9_word, cX9_word, 5, (some .int))
abbrev mX9_move : MI := (yX9_move, cX9_move, 4, (some .int))
abbrev mX9_count : MI := (yX9_count, cX9_count, 4, (some .int))
abbrev mX9_type : MI := (yX9_type, cX9_type, 5, (some .int))
abbrev mX9_isLetter : MI := (yX9_isLetter, cX9_isLetter, 1, (some .boolean))
abbrev mX9_law : MI := (yX9_law, cX9_law, 7, (some .int))
abbrev mX9_letter : MI := (yX9_letter, cX9_letter, 3, (some .int))
abbrev mX9_has : MI := (yX9_has, cX9_has, 5, (some .boolean))
abbrev mX9_beginDays : MI := (yX9_beginDays, cX9_beginDays, 2, none)
abbrev mX9_runOn : MI := (yX9_runOn, cX9_runOn, 5, none)
abbrev mX9_leftOf : MI := (yX9_leftOf, cX9_leftOf, 2, (some .long))
abbrev mX9_isDead : MI := (yX9_isDead, cX9_isDead, 4, (some .boolean))
abbrev mX9_putTo : MI := (yX9_putTo, cX9_putTo, 15, (some .long))
abbrev mX9_compare : MI := (yX9_compare, cX9_compare, 11, (some .int))
abbrev mX9_findOrder : MI := (yX9_findOrder, cX9_findOrder, 6, (some .int))
abbrev mX9_putParts : MI := (yX9_putParts, cX9_putParts, 12, none)
abbrev mX9_putAll : MI := (yX9_putAll, cX9_putAll, 11, none)
abbrev mX9_putPayment : MI := (yX9_putPayment, cX9_putPayment, 4, none)
abbrev mX9_goDay : MI := (yX9_goDay, cX9_goDay, 4, none)
abbrev mX9_goTo : MI := (yX9_goTo, cX9_goTo, 4, none)
abbrev mX9_owedNow : MI := (yX9_owedNow, cX9_owedNow, 4, (some .long))
abbrev mX9_owedOn : MI := (yX9_owedOn, cX9_owedOn, 3, (some .long))
abbrev mX9_left : MI := (yX9_left, cX9_left, 5, (some .long))
abbrev mX9_owed : MI := (yX9_owed, cX9_owed, 3, (some .long))
abbrev mX9_put : MI := (yX9_put, cX9_put, 7, (some .long))
abbrev mX9_paid : MI := (yX9_paid, cX9_paid, 4, (some .int))
abbrev mX9_dead : MI := (yX9_dead, cX9_dead, 5, (some .int))
abbrev mX9_wakes : MI := (yX9_wakes, cX9_wakes, 3, (some .int))
abbrev mX9_free : MI := (yX9_free, cX9_free, 8, (some .int))
abbrev mX9_rank : MI := (yX9_rank, cX9_rank, 5, (some .int))
abbrev mX9_findWords : MI := (yX9_findWords, cX9_findWords, 10, none)
abbrev mX9_best : MI := (yX9_best, cX9_best, 5, (some .int))
abbrev mX9_least : MI := (yX9_least, cX9_least, 4, (some .long))
abbrev mX9_answer : MI := (yX9_answer, cX9_answer, 11, (some .int))
abbrev mX9_hangs : MI := (yX9_hangs, cX9_hangs, 13, (some .long))
abbrev mX9_plan : MI := (yX9_plan, cX9_plan, 7, (some .long))
abbrev mX9_parts : MI := (yX9_parts, cX9_parts, 3, (some .int))
abbrev mX9_gap : MI := (yX9_gap, cX9_gap, 2, (some .long))
abbrev mX9_carry : MI := (yX9_carry, cX9_carry, 4, none)
abbrev mX9_image : MI := (yX9_image, cX9_image, 1, (some .int))
abbrev mX9_restore : MI := (yX9_restore, cX9_restore, 1, (some .int))
abbrev mX9_isSheet : MI := (yX9_isSheet, cX9_isSheet, 2, (some .boolean))
abbrev mX9_sheet : MI := (yX9_sheet, cX9_sheet, 5, (some .int))
abbrev mX9_drop : MI := (yX9_drop, cX9_drop, 2, (some .int))
abbrev mX9_lacksRow : MI := (yX9_lacksRow, cX9_lacksRow, 5, (some .int))
abbrev mX9_item : MI := (yX9_item, cX9_item, 6, (some .int))
abbrev mX9_pays : MI := (yX9_pays, cX9_pays, 8, (some .int))
abbrev mX9_judge : MI := (yX9_judge, cX9_judge, 8, (some .int))
abbrev mJ11_isValidCodePoint_9a6ad : MI := (yJ11_isValidCodePoint_9a6ad, cJ11_isValidCodePoint_9a6ad, 2, (some .boolean))
abbrev mJ11_highSurrogate_5068e : MI := (yJ11_highSurrogate_5068e, cJ11_highSurrogate_5068e, 1, (some .char))
abbrev mJ11_lowSurrogate_5068e : MI := (yJ11_lowSurrogate_5068e, cJ11_lowSurrogate_5068e, 1, (some .char))
abbrev mJ6_compare_7cf53 : MI := (yJ6_compare_7cf53, cJ6_compare_7cf53, 2, (some .int))
abbrev mJ13_compare_74951 : MI := (yJ13_compare_74951, cJ13_compare_74951, 4, (some .int))
abbrev mJ9_max_7cf53 : MI := (yJ9_max_7cf53, cJ9_max_7cf53, 2, (some .int))
abbrev mJ9_max_f86c9 : MI := (yJ9_max_f86c9, cJ9_max_f86c9, 4, (some .long))
abbrev mJ9_min_7cf53 : MI := (yJ9_min_7cf53, cJ9_min_7cf53, 2, (some .int))
abbrev mJ9_min_f86c9 : MI := (yJ9_min_f86c9, cJ9_min_f86c9, 4, (some .long))
abbrev mJ0_length_8abf5 : MI := (yJ0_length_8abf5, cJ0_length_8abf5, 1, (some .int))
abbrev mJ0_indexOf_0f7a4 : MI := (yJ0_indexOf_0f7a4, cJ0_indexOf_0f7a4, 2, (some .int))
abbrev mJ0_indexOf_7cf53 : MI := (yJ0_indexOf_7cf53, cJ0_indexOf_7cf53, 3, (some .int))
abbrev mJ0_coder_7d493 : MI := (yJ0_coder_7d493, cJ0_coder_7d493, 1, (some .byte))
abbrev mJ0_isLatin1_aae02 : MI := (yJ0_isLatin1_aae02, cJ0_isLatin1_aae02, 1, (some .boolean))
abbrev mJ0_checkBoundsBeginEnd_23922 : MI := (yJ0_checkBoundsBeginEnd_23922, cJ0_checkBoundsBeginEnd_23922, 3, none)
abbrev mJ1_canEncode_9a6ad : MI := (yJ1_canEncode_9a6ad, cJ1_canEncode_9a6ad, 1, (some .boolean))
abbrev mJ1_indexOf_4cfef : MI := (yJ1_indexOf_4cfef, cJ1_indexOf_4cfef, 4, (some .int))
abbrev mJ1_indexOfChar_4cfef : MI := (yJ1_indexOfChar_4cfef, cJ1_indexOfChar_4cfef, 6, (some .int))
abbrev mJ2_getChar_3b067 : MI := (yJ2_getChar_3b067, cJ2_getChar_3b067, 2, (some .char))
abbrev mJ2_length_9d52b : MI := (yJ2_length_9d52b, cJ2_length_9d52b, 1, (some .int))
abbrev mJ2_indexOf_4cfef : MI := (yJ2_indexOf_4cfef, cJ2_indexOf_4cfef, 4, (some .int))
abbrev mJ2_indexOfChar_4cfef : MI := (yJ2_indexOfChar_4cfef, cJ2_indexOfChar_4cfef, 4, (some .int))
abbrev mJ2_indexOfCharUnsafe_4cfef : MI := (yJ2_indexOfCharUnsafe_4cfef, cJ2_indexOfCharUnsafe_4cfef, 5, (some .int))
abbrev mJ2_indexOfSupplementary_4cfef : MI := (yJ2_indexOfSupplementary_4cfef, cJ2_indexOfSupplementary_4cfef, 7, (some .int))
abbrev mJ2_checkBoundsBeginEnd_d044e : MI := (yJ2_checkBoundsBeginEnd_d044e, cJ2_checkBoundsBeginEnd_d044e, 3, none)
abbrev mJ7_fill_d0a16 : MI := (yJ7_fill_d0a16, cJ7_fill_d0a16, 5, none)
abbrev mJ7_fill_53178 : MI := (yJ7_fill_53178, cJ7_fill_53178, 4, none)
abbrev mJ3_checkFromToIndex_8c36e : MI := (yJ3_checkFromToIndex_8c36e, cJ3_checkFromToIndex_8c36e, 4, (some .int))
set_option maxRecDepth 20000 in
theorem okX0_init : MOK mX0_init 0 := ⟨(wA_t 33 rfl rfl), (wA_t 2 (by decide +kernel) rfl), by decide +kernel, by decide +kernel, by decide⟩
set_option maxRecDepth 20000 in
theorem okX0_addPayment : MOK mX0_addPayment 2 := ⟨(wA_t 337 rfl rfl), (wA_t 2 (by decide +kernel) rfl), by decide +kernel, by decide +kernel, by decide⟩
set_option maxRecDepth 20000 in
theorem okX0_debtsWithAtLeast : MOK mX0_debtsWithAtLeast 2 := ⟨(wA_t 375 rfl rfl), (wA_t 2 (by decide +kernel) rfl), by decide +kernel, by decide +kernel, by decide⟩
set_option maxRecDepth 20000 in
theorem okX0_copyFrom : MOK mX0_copyFrom 1 := ⟨(wA_t 517 rfl rfl), (wA_t 2 (by decide +kernel) rfl), by decide +kernel, by decide +kernel, by decide⟩
set_option maxRecDepth 20000 in
theorem okX1_init : MOK mX1_init 0 := ⟨(wA_t 144 rfl rfl), (wA_t 6 (by decide +kernel) rfl), by decide +kernel, by decide +kernel, by decide⟩
set_option maxRecDepth 20000 in
theorem okX1_start : MOK mX1_start 2 := ⟨(wA_t 513 rfl rfl), (wA_t 6 (by decide +kernel) rfl), by decide +kernel, by decide +kernel, by decide⟩
set_option maxRecDepth 20000 in
theorem okX1_standWith : MOK mX1_standWith 1 := ⟨(wA_t 710 rfl rfl), (wA_t 6 (by decide +kernel) rfl), by decide +kernel, by decide +kernel, by decide⟩
set_option maxRecDepth 20000 in
theorem okX1_goAheadOf : MOK mX1_goAheadOf 1 := ⟨(wA_t 657 rfl rfl), (wA_t 6 (by decide +kernel) rfl), by decide +kernel, by decide +kernel, by decide⟩
set_option maxRecDepth 20000 in
theorem okX1_goBehind : MOK mX1_goBehind 1 := ⟨(wA_t 539 rfl rfl), (wA_t 6 (by decide +kernel) rfl), by decide +kernel, by decide +kernel, by decide⟩
set_option maxRecDepth 20000 in
theorem okX1_takeUpTo : MOK mX1_takeUpTo 1 := ⟨(wA_t 642 rfl rfl), (wA_t 6 (by decide +kernel) rfl), by decide +kernel, by decide +kernel, by decide⟩
set_option maxRecDepth 20000 in
theorem okX1_nextPayment : MOK mX1_nextPayment 1 := ⟨(wA_t 543 rfl rfl), (wA_t 6 (by decide +kernel) rfl), by decide +kernel, by decide +kernel, by decide⟩
set_option maxRecDepth 20000 in
theorem okX1_take : MOK mX1_take 1 := ⟨(wA_t 547 rfl rfl), (wA_t 6 (by decide +kernel) rfl), by decide +kernel, by decide +kernel, by decide⟩
set_option maxRecDepth 20000 in
theorem okX1_runTo : MOK mX1_runTo 1 := ⟨(wA_t 551 rfl rfl), (wA_t 6 (by decide +kernel) rfl), by decide +kernel, by decide +kernel, by decide⟩
set_option maxRecDepth 20000 in
theorem okX1_runOn : MOK mX1_runOn 2 := ⟨(wA_t 556 rfl rfl), (wA_t 6 (by decide +kernel) rfl), by decide +kernel, by decide +kernel, by decide⟩
set_option maxRecDepth 20000 in
theorem okX1_isOpen : MOK mX1_isOpen 1 := ⟨(wA_t 568 rfl rfl), (wA_t 6 (by decide +kernel) rfl), by decide +kernel, by decide +kernel, by decide⟩
set_option maxRecDepth 20000 in
theorem okX1_sumLeft : MOK mX1_sumLeft 1 := ⟨(wA_t 615 rfl rfl), (wA_t 6 (by decide +kernel) rfl), by decide +kernel, by decide +kernel, by decide⟩
set_option maxRecDepth 20000 in
theorem okX1_runLeft : MOK mX1_runLeft 1 := ⟨(wA_t 619 rfl rfl), (wA_t 6 (by decide +kernel) rfl), by decide +kernel, by decide +kernel, by decide⟩
set_option maxRecDepth 20000 in
theorem okX1_leftOf : MOK mX1_leftOf 1 := ⟨(wA_t 623 rfl rfl), (wA_t 6 (by decide +kernel) rfl), by decide +kernel, by decide +kernel, by decide⟩
set_option maxRecDepth 20000 in
theorem okX1_owedNow : MOK mX1_owedNow 0 := ⟨(wA_t 633 rfl rfl), (wA_t 6 (by decide +kernel) rfl), by decide +kernel, by decide +kernel, by decide⟩
set_option maxRecDepth 20000 in
theorem okX1_isLeftAlike : MOK mX1_isLeftAlike 1 := ⟨(wA_t 744 rfl rfl), (wA_t 6 (by decide +kernel) rfl), by decide +kernel, by decide +kernel, by decide⟩
set_option maxRecDepth 20000 in
theorem okX1_findDead : MOK mX1_findDead 0 := ⟨(wA_t 579 rfl rfl), (wA_t 6 (by decide +kernel) rfl), by decide +kernel, by decide +kernel, by decide⟩
set_option maxRecDepth 20000 in
theorem okX1_orderOpen : MOK mX1_orderOpen 0 := ⟨(wA_t 590 rfl rfl), (wA_t 6 (by decide +kernel) rfl), by decide +kernel, by decide +kernel, by decide⟩
set_option maxRecDepth 20000 in
theorem okX1_compareByKeys : MOK mX1_compareByKeys 2 := ⟨(wA_t 594 rfl rfl), (wA_t 6 (by decide +kernel) rfl), by decide +kernel, by decide +kernel, by decide⟩
set_option maxRecDepth 20000 in
theorem okX1_firstIf : MOK mX1_firstIf 2 := ⟨(wA_t 597 rfl rfl), (wA_t 6 (by decide +kernel) rfl), by decide +kernel, by decide +kernel, by decide⟩
set_option maxRecDepth 20000 in
theorem okX1_chosenDebt : MOK mX1_chosenDebt 1 := ⟨(wA_t 560 rfl rfl), (wA_t 6 (by decide +kernel) rfl), by decide +kernel, by decide +kernel, by decide⟩
set_option maxRecDepth 20000 in
theorem okX1_heedsWord : MOK mX1_heedsWord 1 := ⟨(wA_t 706 rfl rfl), (wA_t 6 (by decide +kernel) rfl), by decide +kernel, by decide +kernel, by decide⟩
set_option maxRecDepth 20000 in
theorem okX1_distribute : MOK mX1_distribute 2 := ⟨(wA_t 572 rfl rfl), (wA_t 6 (by decide +kernel) rfl), by decide +kernel, by decide +kernel, by decide⟩
set_option maxRecDepth 20000 in
theorem okX1_share : MOK mX1_share 3 := ⟨(wA_t 611 rfl rfl), (wA_t 6 (by decide +kernel) rfl), by decide +kernel, by decide +kernel, by decide⟩
set_option maxRecDepth 20000 in
theorem okX1_give : MOK mX1_give 2 := ⟨(wA_t 583 rfl rfl), (wA_t 6 (by decide +kernel) rfl), by decide +kernel, by decide +kernel, by decide⟩
set_option maxRecDepth 20000 in
theorem okX2_init : MOK mX2_init 0 := ⟨(wA_t 44 rfl rfl), (wA_t 3 (by decide +kernel) rfl), by decide +kernel, by decide +kernel, by decide⟩
set_option maxRecDepth 20000 in
theorem okX2_begin : MOK mX2_begin 4 := ⟨(wA_t 314 rfl rfl), (wA_t 3 (by decide +kernel) rfl), by decide +kernel, by decide +kernel, by decide⟩
set_option maxRecDepth 20000 in
theorem okX2_isSecured : MOK mX2_isSecured 0 := ⟨(wA_t 604 rfl rfl), (wA_t 3 (by decide +kernel) rfl), by decide +kernel, by decide +kernel, by decide⟩
set_option maxRecDepth 20000 in
theorem okX2_copyFrom : MOK mX2_copyFrom 1 := ⟨(wA_t 521 rfl rfl), (wA_t 3 (by decide +kernel) rfl), by decide +kernel, by decide +kernel, by decide⟩
set_option maxRecDepth 20000 in
theorem okX3_init : MOK mX3_init 0 := ⟨(wA_t 96 rfl rfl), (wA_t 5 (by decide +kernel) rfl), by decide +kernel, by decide +kernel, by decide⟩
set_option maxRecDepth 20000 in
theorem okX3_has : MOK mX3_has 1 := ⟨(wA_t 564 rfl rfl), (wA_t 5 (by decide +kernel) rfl), by decide +kernel, by decide +kernel, by decide⟩
set_option maxRecDepth 20000 in
theorem okX3_read : MOK mX3_read 1 := ⟨(wA_t 494 rfl rfl), (wA_t 5 (by decide +kernel) rfl), by decide +kernel, by decide +kernel, by decide⟩
set_option maxRecDepth 20000 in
theorem okX3_copyFrom : MOK mX3_copyFrom 1 := ⟨(wA_t 532 rfl rfl), (wA_t 5 (by decide +kernel) rfl), by decide +kernel, by decide +kernel, by decide⟩
set_option maxRecDepth 20000 in
theorem okX3_bitOf : MOK mX3_bitOf 1 := ⟨(wA_t 490 rfl rfl), (wA_t 5 (by decide +kernel) rfl), by decide +kernel, by decide +kernel, by decide⟩
set_option maxRecDepth 20000 in
theorem okX4_init : MOK mX4_init 0 := ⟨(wA_t 65 rfl rfl), (wA_t 4 (by decide +kernel) rfl), by decide +kernel, by decide +kernel, by decide⟩
set_option maxRecDepth 20000 in
theorem okX4_copyFrom : MOK mX4_copyFrom 1 := ⟨(wA_t 528 rfl rfl), (wA_t 4 (by decide +kernel) rfl), by decide +kernel, by decide +kernel, by decide⟩
set_option maxRecDepth 20000 in
theorem okX5_init : MOK mX5_init 0 := ⟨(wA_t 258 rfl rfl), (wA_t 9 (by decide +kernel) rfl), by decide +kernel, by decide +kernel, by decide⟩
set_option maxRecDepth 20000 in
theorem okX5_begin : MOK mX5_begin 2 := ⟨(wA_t 770 rfl rfl), (wA_t 9 (by decide +kernel) rfl), by decide +kernel, by decide +kernel, by decide⟩
set_option maxRecDepth 20000 in
theorem okX5_refusal : MOK mX5_refusal 3 := ⟨(wA_t 351 rfl rfl), (wA_t 9 (by decide +kernel) rfl), by decide +kernel, by decide +kernel, by decide⟩
set_option maxRecDepth 20000 in
theorem okX5_write : MOK mX5_write 2 := ⟨(wA_t 783 rfl rfl), (wA_t 9 (by decide +kernel) rfl), by decide +kernel, by decide +kernel, by decide⟩
set_option maxRecDepth 20000 in
theorem okX6_init : MOK mX6_init 0 := ⟨(wA_t 241 rfl rfl), (wA_t 8 (by decide +kernel) rfl), by decide +kernel, by decide +kernel, by decide⟩
set_option maxRecDepth 20000 in
theorem okX6_append : MOK mX6_append 1 := ⟨(wA_t 389 rfl rfl), (wA_t 8 (by decide +kernel) rfl), by decide +kernel, by decide +kernel, by decide⟩
set_option maxRecDepth 20000 in
theorem okX6_fault : MOK mX6_fault 0 := ⟨(wA_t 400 rfl rfl), (wA_t 8 (by decide +kernel) rfl), by decide +kernel, by decide +kernel, by decide⟩
set_option maxRecDepth 20000 in
theorem okX7_init : MOK mX7_init 0 := ⟨(wA_t 208 rfl rfl), (wA_t 7 (by decide +kernel) rfl), by decide +kernel, by decide +kernel, by decide⟩
set_option maxRecDepth 20000 in
theorem okX7_find : MOK mX7_find 4 := ⟨(wA_t 681 rfl rfl), (wA_t 7 (by decide +kernel) rfl), by decide +kernel, by decide +kernel, by decide⟩
set_option maxRecDepth 20000 in
theorem okX7_tryFrom : MOK mX7_tryFrom 1 := ⟨(wA_t 689 rfl rfl), (wA_t 7 (by decide +kernel) rfl), by decide +kernel, by decide +kernel, by decide⟩
set_option maxRecDepth 20000 in
theorem okX7_weigh : MOK mX7_weigh 1 := ⟨(wA_t 697 rfl rfl), (wA_t 7 (by decide +kernel) rfl), by decide +kernel, by decide +kernel, by decide⟩
set_option maxRecDepth 20000 in
theorem okX7_isTriedAhead : MOK mX7_isTriedAhead 0 := ⟨(wA_t 701 rfl rfl), (wA_t 7 (by decide +kernel) rfl), by decide +kernel, by decide +kernel, by decide⟩
set_option maxRecDepth 20000 in
theorem okX8_init : MOK mX8_init 0 := ⟨(wA_t 25 rfl rfl), (wA_t 1 (by decide +kernel) rfl), by decide +kernel, by decide +kernel, by decide⟩
set_option maxRecDepth 20000 in
theorem okX8_debt : MOK mX8_debt 4 := ⟨(wA_t 304 rfl rfl), (wA_t 1 (by decide +kernel) rfl), by decide +kernel, by decide +kernel, by decide⟩
set_option maxRecDepth 20000 in
theorem okX8_set : MOK mX8_set 3 := ⟨(wA_t 318 rfl rfl), (wA_t 1 (by decide +kernel) rfl), by decide +kernel, by decide +kernel, by decide⟩
set_option maxRecDepth 20000 in
theorem okX8_pay : MOK mX8_pay 2 := ⟨(wA_t 330 rfl rfl), (wA_t 1 (by decide +kernel) rfl), by decide +kernel, by decide +kernel, by decide⟩
set_option maxRecDepth 20000 in
theorem okX8_pays : MOK mX8_pays 4 := ⟨(wA_t 341 rfl rfl), (wA_t 1 (by decide +kernel) rfl), by decide +kernel, by decide +kernel, by decide⟩
set_option maxRecDepth 20000 in
theorem okX8_word : MOK mX8_word 3 := ⟨(wA_t 355 rfl rfl), (wA_t 1 (by decide +kernel) rfl), by decide +kernel, by decide +kernel, by decide⟩
set_option maxRecDepth 20000 in
theorem okX8_move : MOK mX8_move 2 := ⟨(wA_t 367 rfl rfl), (wA_t 1 (by decide +kernel) rfl), by decide +kernel, by decide +kernel, by decide⟩
set_option maxRecDepth 20000 in
theorem okX8_count : MOK mX8_count 1 := ⟨(wA_t 371 rfl rfl), (wA_t 1 (by decide +kernel) rfl), by decide +kernel, by decide +kernel, by decide⟩
set_option maxRecDepth 20000 in
theorem okX8_type : MOK mX8_type 2 := ⟨(wA_t 379 rfl rfl), (wA_t 1 (by decide +kernel) rfl), by decide +kernel, by decide +kernel, by decide⟩
set_option maxRecDepth 20000 in
theorem okX8_law : MOK mX8_law 1 := ⟨(wA_t 393 rfl rfl), (wA_t 1 (by decide +kernel) rfl), by decide +kernel, by decide +kernel, by decide⟩
set_option maxRecDepth 20000 in
theorem okX8_letter : MOK mX8_letter 2 := ⟨(wA_t 500 rfl rfl), (wA_t 1 (by decide +kernel) rfl), by decide +kernel, by decide +kernel, by decide⟩
set_option maxRecDepth 20000 in
theorem okX8_left : MOK mX8_left 4 := ⟨(wA_t 504 rfl rfl), (wA_t 1 (by decide +kernel) rfl), by decide +kernel, by decide +kernel, by decide⟩
set_option maxRecDepth 20000 in
theorem okX8_owed : MOK mX8_owed 2 := ⟨(wA_t 629 rfl rfl), (wA_t 1 (by decide +kernel) rfl), by decide +kernel, by decide +kernel, by decide⟩
set_option maxRecDepth 20000 in
theorem okX8_put : MOK mX8_put 4 := ⟨(wA_t 638 rfl rfl), (wA_t 1 (by decide +kernel) rfl), by decide +kernel, by decide +kernel, by decide⟩
set_option maxRecDepth 20000 in
theorem okX8_paid : MOK mX8_paid 2 := ⟨(wA_t 646 rfl rfl), (wA_t 1 (by decide +kernel) rfl), by decide +kernel, by decide +kernel, by decide⟩
set_option maxRecDepth 20000 in
theorem okX8_dead : MOK mX8_dead 3 := ⟨(wA_t 653 rfl rfl), (wA_t 1 (by decide +kernel) rfl), by decide +kernel, by decide +kernel, by decide⟩
set_option maxRecDepth 20000 in
theorem okX8_wakes : MOK mX8_wakes 2 := ⟨(wA_t 663 rfl rfl), (wA_t 1 (by decide +kernel) rfl), by decide +kernel, by decide +kernel, by decide⟩
set_option maxRecDepth 20000 in
theorem okX8_free : MOK mX8_free 2 := ⟨(wA_t 667 rfl rfl), (wA_t 1 (by decide +kernel) rfl), by decide +kernel, by decide +kernel, by decide⟩
set_option maxRecDepth 20000 in
theorem okX8_rank : MOK mX8_rank 3 := ⟨(wA_t 672 rfl rfl), (wA_t 1 (by decide +kernel) rfl), by decide +kernel, by decide +kernel, by decide⟩
set_option maxRecDepth 20000 in
theorem okX8_best : MOK mX8_best 4 := ⟨(wA_t 677 rfl rfl), (wA_t 1 (by decide +kernel) rfl), by decide +kernel, by decide +kernel, by decide⟩
set_option maxRecDepth 20000 in
theorem okX8_least : MOK mX8_least 3 := ⟨(wA_t 715 rfl rfl), (wA_t 1 (by decide +kernel) rfl), by decide +kernel, by decide +kernel, by decide⟩
set_option maxRecDepth 20000 in
theorem okX8_answer : MOK mX8_answer 3 := ⟨(wA_t 720 rfl rfl), (wA_t 1 (by decide +kernel) rfl), by decide +kernel, by decide +kernel, by decide⟩
set_option maxRecDepth 20000 in
theorem okX8_hangs : MOK mX8_hangs 6 := ⟨(wA_t 724 rfl rfl), (wA_t 1 (by decide +kernel) rfl), by decide +kernel, by decide +kernel, by decide⟩
set_option maxRecDepth 20000 in
theorem okX8_plan : MOK mX8_plan 5 := ⟨(wA_t 733 rfl rfl), (wA_t 1 (by decide +kernel) rfl), by decide +kernel, by decide +kernel, by decide⟩
set_option maxRecDepth 20000 in
theorem okX8_parts : MOK mX8_parts 0 := ⟨(wA_t 740 rfl rfl), (wA_t 1 (by decide +kernel) rfl), by decide +kernel, by decide +kernel, by decide⟩
set_option maxRecDepth 20000 in
theorem okX8_gap : MOK mX8_gap 1 := ⟨(wA_t 748 rfl rfl), (wA_t 1 (by decide +kernel) rfl), by decide +kernel, by decide +kernel, by decide⟩
set_option maxRecDepth 20000 in
theorem okX8_judge : MOK mX8_judge 5 := ⟨(wA_t 753 rfl rfl), (wA_t 1 (by decide +kernel) rfl), by decide +kernel, by decide +kernel, by decide⟩
set_option maxRecDepth 20000 in
theorem okX8_image : MOK mX8_image 0 := ⟨(wA_t 757 rfl rfl), (wA_t 1 (by decide +kernel) rfl), by decide +kernel, by decide +kernel, by decide⟩
set_option maxRecDepth 20000 in
theorem okX8_restore : MOK mX8_restore 0 := ⟨(wA_t 762 rfl rfl), (wA_t 1 (by decide +kernel) rfl), by decide +kernel, by decide +kernel, by decide⟩
set_option maxRecDepth 20000 in
theorem okX8_sheet : MOK mX8_sheet 3 := ⟨(wA_t 766 rfl rfl), (wA_t 1 (by decide +kernel) rfl), by decide +kernel, by decide +kernel, by decide⟩
set_option maxRecDepth 20000 in
theorem okX8_drop : MOK mX8_drop 1 := ⟨(wA_t 775 rfl rfl), (wA_t 1 (by decide +kernel) rfl), by decide +kernel, by decide +kernel, by decide⟩
set_option maxRecDepth 20000 in
theorem okX8_item : MOK mX8_item 4 := ⟨(wA_t 779 rfl rfl), (wA_t 1 (by decide +kernel) rfl), by decide +kernel, by decide +kernel, by decide⟩
set_option maxRecDepth 20000 in
theorem okX8_within : MOK mX8_within 3 := ⟨(wA_t 307 rfl rfl), (wA_t 1 (by decide +kernel) rfl), by decide +kernel, by decide +kernel, by decide⟩
set_option maxRecDepth 20000 in
theorem okX8_isDay : MOK mX8_isDay 1 := ⟨(wA_t 310 rfl rfl), (wA_t 1 (by decide +kernel) rfl), by decide +kernel, by decide +kernel, by decide⟩
set_option maxRecDepth 20000 in
theorem okX8_isPayable : MOK mX8_isPayable 2 := ⟨(wA_t 333 rfl rfl), (wA_t 1 (by decide +kernel) rfl), by decide +kernel, by decide +kernel, by decide⟩
set_option maxRecDepth 20000 in
theorem okX8_isLaw : MOK mX8_isLaw 1 := ⟨(wA_t 396 rfl rfl), (wA_t 1 (by decide +kernel) rfl), by decide +kernel, by decide +kernel, by decide⟩
set_option maxRecDepth 20000 in
theorem okX8_isSheet : MOK mX8_isSheet 1 := ⟨(wA_t 344 rfl rfl), (wA_t 1 (by decide +kernel) rfl), by decide +kernel, by decide +kernel, by decide⟩
set_option maxRecDepth 20000 in
theorem okX8_isLane : MOK mX8_isLane 1 := ⟨(wA_t 347 rfl rfl), (wA_t 1 (by decide +kernel) rfl), by decide +kernel, by decide +kernel, by decide⟩
set_option maxRecDepth 20000 in
theorem okX8_isDebt : MOK mX8_isDebt 1 := ⟨(wA_t 322 rfl rfl), (wA_t 1 (by decide +kernel) rfl), by decide +kernel, by decide +kernel, by decide⟩
set_option maxRecDepth 20000 in
theorem okX8_isDebtOrNone : MOK mX8_isDebtOrNone 1 := ⟨(wA_t 363 rfl rfl), (wA_t 1 (by decide +kernel) rfl), by decide +kernel, by decide +kernel, by decide⟩
set_option maxRecDepth 20000 in
theorem okX8_isPayment : MOK mX8_isPayment 1 := ⟨(wA_t 359 rfl rfl), (wA_t 1 (by decide +kernel) rfl), by decide +kernel, by decide +kernel, by decide⟩
set_option maxRecDepth 20000 in
theorem okX8_dayOrNone : MOK mX8_dayOrNone 1 := ⟨(wA_t 649 rfl rfl), (wA_t 1 (by decide +kernel) rfl), by decide +kernel, by decide +kernel, by decide⟩
set_option maxRecDepth 20000 in
theorem okX8_byteOf : MOK mX8_byteOf 2 := ⟨(wA_t 385 rfl rfl), (wA_t 1 (by decide +kernel) rfl), by decide +kernel, by decide +kernel, by decide⟩
set_option maxRecDepth 20000 in
theorem okX8_allSigns : MOK mX8_allSigns 2 := ⟨(wA_t 382 rfl rfl), (wA_t 1 (by decide +kernel) rfl), by decide +kernel, by decide +kernel, by decide⟩
set_option maxRecDepth 20000 in
theorem okX8_goBehind : MOK mX8_goBehind 2 := ⟨(wA_t 509 rfl rfl), (wA_t 1 (by decide +kernel) rfl), by decide +kernel, by decide +kernel, by decide⟩
set_option maxRecDepth 20000 in
theorem okX9_in : MOK mX9_in 3 := ⟨(wA_t 885 rfl rfl), (wA_t 10 (by decide +kernel) rfl), by decide +kernel, by decide +kernel, by decide⟩
set_option maxRecDepth 20000 in
theorem okX9_init : MOK mX9_init 0 := ⟨(wA_t 788 rfl rfl), (wA_t 10 (by decide +kernel) rfl), by decide +kernel, by decide +kernel, by decide⟩
set_option maxRecDepth 20000 in
theorem okX9_isDay : MOK mX9_isDay 1 := ⟨(wA_t 888 rfl rfl), (wA_t 10 (by decide +kernel) rfl), by decide +kernel, by decide +kernel, by decide⟩
set_option maxRecDepth 20000 in
theorem okX9_isDebt : MOK mX9_isDebt 1 := ⟨(wA_t 898 rfl rfl), (wA_t 10 (by decide +kernel) rfl), by decide +kernel, by decide +kernel, by decide⟩
set_option maxRecDepth 20000 in
theorem okX9_isPayment : MOK mX9_isPayment 1 := ⟨(wA_t 916 rfl rfl), (wA_t 10 (by decide +kernel) rfl), by decide +kernel, by decide +kernel, by decide⟩
set_option maxRecDepth 20000 in
theorem okX9_isLaw : MOK mX9_isLaw 1 := ⟨(wA_t 940 rfl rfl), (wA_t 10 (by decide +kernel) rfl), by decide +kernel, by decide +kernel, by decide⟩
set_option maxRecDepth 20000 in
theorem okX9_debt : MOK mX9_debt 4 := ⟨(wA_t 881 rfl rfl), (wA_t 10 (by decide +kernel) rfl), by decide +kernel, by decide +kernel, by decide⟩
set_option maxRecDepth 20000 in
theorem okX9_set : MOK mX9_set 3 := ⟨(wA_t 894 rfl rfl), (wA_t 10 (by decide +kernel) rfl), by decide +kernel, by decide +kernel, by decide⟩
set_option maxRecDepth 20000 in
theorem okX9_addPayment : MOK mX9_addPayment 2 := ⟨(wA_t 908 rfl rfl), (wA_t 10 (by decide +kernel) rfl), by decide +kernel, by decide +kernel, by decide⟩
set_option maxRecDepth 20000 in
theorem okX9_pay : MOK mX9_pay 2 := ⟨(wA_t 904 rfl rfl), (wA_t 10 (by decide +kernel) rfl), by decide +kernel, by decide +kernel, by decide⟩
set_option maxRecDepth 20000 in
theorem okX9_word : MOK mX9_word 3 := ⟨(wA_t 912 rfl rfl), (wA_t 10 (by decide +kernel) rfl), by decide +kernel, by decide +kernel, by decide⟩
set_option maxRecDepth 20000 in
theorem okX9_move : MOK mX9_move 2 := ⟨(wA_t 920 rfl rfl), (wA_t 10 (by decide +kernel) rfl), by decide +kernel, by decide +kernel, by decide⟩
set_option maxRecDepth 20000 in
theorem okX9_count : MOK mX9_count 1 := ⟨(wA_t 924 rfl rfl), (wA_t 10 (by decide +kernel) rfl), by decide +kernel, by decide +kernel, by decide⟩
set_option maxRecDepth 20000 in
theorem okX9_type : MOK mX9_type 2 := ⟨(wA_t 929 rfl rfl), (wA_t 10 (by decide +kernel) rfl), by decide +kernel, by decide +kernel, by decide⟩
set_option maxRecDepth 20000 in
theorem okX9_isLetter : MOK mX9_isLetter 1 := ⟨(wA_t 943 rfl rfl), (wA_t 10 (by decide +kernel) rfl), by decide +kernel, by decide +kernel, by decide⟩
set_option maxRecDepth 20000 in
theorem okX9_law : MOK mX9_law 1 := ⟨(wA_t 937 rfl rfl), (wA_t 10 (by decide +kernel) rfl), by decide +kernel, by decide +kernel, by decide⟩
set_option maxRecDepth 20000 in
theorem okX9_letter : MOK mX9_letter 2 := ⟨(wA_t 947 rfl rfl), (wA_t 10 (by decide +kernel) rfl), by decide +kernel, by decide +kernel, by decide⟩
set_option maxRecDepth 20000 in
theorem okX9_has : MOK mX9_has 2 := ⟨(wA_t 989 rfl rfl), (wA_t 10 (by decide +kernel) rfl), by decide +kernel, by decide +kernel, by decide⟩
set_option maxRecDepth 20000 in
theorem okX9_beginDays : MOK mX9_beginDays 0 := ⟨(wA_t 960 rfl rfl), (wA_t 10 (by decide +kernel) rfl), by decide +kernel, by decide +kernel, by decide⟩
set_option maxRecDepth 20000 in
theorem okX9_runOn : MOK mX9_runOn 1 := ⟨(wA_t 968 rfl rfl), (wA_t 10 (by decide +kernel) rfl), by decide +kernel, by decide +kernel, by decide⟩
set_option maxRecDepth 20000 in
theorem okX9_leftOf : MOK mX9_leftOf 1 := ⟨(wA_t 985 rfl rfl), (wA_t 10 (by decide +kernel) rfl), by decide +kernel, by decide +kernel, by decide⟩
set_option maxRecDepth 20000 in
theorem okX9_isDead : MOK mX9_isDead 2 := ⟨(wA_t 981 rfl rfl), (wA_t 10 (by decide +kernel) rfl), by decide +kernel, by decide +kernel, by decide⟩
set_option maxRecDepth 20000 in
theorem okX9_putTo : MOK mX9_putTo 4 := ⟨(wA_t 993 rfl rfl), (wA_t 10 (by decide +kernel) rfl), by decide +kernel, by decide +kernel, by decide⟩
set_option maxRecDepth 20000 in
theorem okX9_compare : MOK mX9_compare 4 := ⟨(wA_t 1001 rfl rfl), (wA_t 10 (by decide +kernel) rfl), by decide +kernel, by decide +kernel, by decide⟩
set_option maxRecDepth 20000 in
theorem okX9_findOrder : MOK mX9_findOrder 2 := ⟨(wA_t 997 rfl rfl), (wA_t 10 (by decide +kernel) rfl), by decide +kernel, by decide +kernel, by decide⟩
set_option maxRecDepth 20000 in
theorem okX9_putParts : MOK mX9_putParts 4 := ⟨(wA_t 1005 rfl rfl), (wA_t 10 (by decide +kernel) rfl), by decide +kernel, by decide +kernel, by decide⟩
set_option maxRecDepth 20000 in
theorem okX9_putAll : MOK mX9_putAll 5 := ⟨(wA_t 977 rfl rfl), (wA_t 10 (by decide +kernel) rfl), by decide +kernel, by decide +kernel, by decide⟩
set_option maxRecDepth 20000 in
theorem okX9_putPayment : MOK mX9_putPayment 3 := ⟨(wA_t 973 rfl rfl), (wA_t 10 (by decide +kernel) rfl), by decide +kernel, by decide +kernel, by decide⟩
set_option maxRecDepth 20000 in
theorem okX9_goDay : MOK mX9_goDay 2 := ⟨(wA_t 964 rfl rfl), (wA_t 10 (by decide +kernel) rfl), by decide +kernel, by decide +kernel, by decide⟩
set_option maxRecDepth 20000 in
theorem okX9_goTo : MOK mX9_goTo 2 := ⟨(wA_t 956 rfl rfl), (wA_t 10 (by decide +kernel) rfl), by decide +kernel, by decide +kernel, by decide⟩
set_option maxRecDepth 20000 in
theorem okX9_owedNow : MOK mX9_owedNow 0 := ⟨(wA_t 1017 rfl rfl), (wA_t 10 (by decide +kernel) rfl), by decide +kernel, by decide +kernel, by decide⟩
set_option maxRecDepth 20000 in
theorem okX9_owedOn : MOK mX9_owedOn 2 := ⟨(wA_t 1013 rfl rfl), (wA_t 10 (by decide +kernel) rfl), by decide +kernel, by decide +kernel, by decide⟩
set_option maxRecDepth 20000 in
theorem okX9_left : MOK mX9_left 4 := ⟨(wA_t 951 rfl rfl), (wA_t 10 (by decide +kernel) rfl), by decide +kernel, by decide +kernel, by decide⟩
set_option maxRecDepth 20000 in
theorem okX9_owed : MOK mX9_owed 2 := ⟨(wA_t 1009 rfl rfl), (wA_t 10 (by decide +kernel) rfl), by decide +kernel, by decide +kernel, by decide⟩
set_option maxRecDepth 20000 in
theorem okX9_put : MOK mX9_put 4 := ⟨(wA_t 1021 rfl rfl), (wA_t 10 (by decide +kernel) rfl), by decide +kernel, by decide +kernel, by decide⟩
set_option maxRecDepth 20000 in
theorem okX9_paid : MOK mX9_paid 2 := ⟨(wA_t 1025 rfl rfl), (wA_t 10 (by decide +kernel) rfl), by decide +kernel, by decide +kernel, by decide⟩
set_option maxRecDepth 20000 in
theorem okX9_dead : MOK mX9_dead 3 := ⟨(wA_t 1029 rfl rfl), (wA_t 10 (by decide +kernel) rfl), by decide +kernel, by decide +kernel, by decide⟩
set_option maxRecDepth 20000 in
theorem okX9_wakes : MOK mX9_wakes 2 := ⟨(wA_t 1033 rfl rfl), (wA_t 10 (by decide +kernel) rfl), by decide +kernel, by decide +kernel, by decide⟩
set_option maxRecDepth 20000 in
theorem okX9_free : MOK mX9_free 2 := ⟨(wA_t 1037 rfl rfl), (wA_t 10 (by decide +kernel) rfl), by decide +kernel, by decide +kernel, by decide⟩
set_option maxRecDepth 20000 in
theorem okX9_rank : MOK mX9_rank 3 := ⟨(wA_t 1041 rfl rfl), (wA_t 10 (by decide +kernel) rfl), by decide +kernel, by decide +kernel, by decide⟩
set_option maxRecDepth 20000 in
theorem okX9_findWords : MOK mX9_findWords 3 := ⟨(wA_t 1049 rfl rfl), (wA_t 10 (by decide +kernel) rfl), by decide +kernel, by decide +kernel, by decide⟩
set_option maxRecDepth 20000 in
theorem okX9_best : MOK mX9_best 4 := ⟨(wA_t 1045 rfl rfl), (wA_t 10 (by decide +kernel) rfl), by decide +kernel, by decide +kernel, by decide⟩
set_option maxRecDepth 20000 in
theorem okX9_least : MOK mX9_least 3 := ⟨(wA_t 1053 rfl rfl), (wA_t 10 (by decide +kernel) rfl), by decide +kernel, by decide +kernel, by decide⟩
set_option maxRecDepth 20000 in
theorem okX9_answer : MOK mX9_answer 3 := ⟨(wA_t 1058 rfl rfl), (wA_t 10 (by decide +kernel) rfl), by decide +kernel, by decide +kernel, by decide⟩
set_option maxRecDepth 20000 in
theorem okX9_hangs : MOK mX9_hangs 6 := ⟨(wA_t 1062 rfl rfl), (wA_t 10 (by decide +kernel) rfl), by decide +kernel, by decide +kernel, by decide⟩
set_option maxRecDepth 20000 in
theorem okX9_plan : MOK mX9_plan 5 := ⟨(wA_t 1066 rfl rfl), (wA_t 10 (by decide +kernel) rfl), by decide +kernel, by decide +kernel, by decide⟩
set_option maxRecDepth 20000 in
theorem okX9_parts : MOK mX9_parts 0 := ⟨(wA_t 1072 rfl rfl), (wA_t 10 (by decide +kernel) rfl), by decide +kernel, by decide +kernel, by decide⟩
set_option maxRecDepth 20000 in
theorem okX9_gap : MOK mX9_gap 1 := ⟨(wA_t 1076 rfl rfl), (wA_t 10 (by decide +kernel) rfl), by decide +kernel, by decide +kernel, by decide⟩
set_option maxRecDepth 20000 in
theorem okX9_carry : MOK mX9_carry 1 := ⟨(wA_t 1085 rfl rfl), (wA_t 10 (by decide +kernel) rfl), by decide +kernel, by decide +kernel, by decide⟩
set_option maxRecDepth 20000 in
theorem okX9_image : MOK mX9_image 0 := ⟨(wA_t 1081 rfl rfl), (wA_t 10 (by decide +kernel) rfl), by decide +kernel, by decide +kernel, by decide⟩
set_option maxRecDepth 20000 in
theorem okX9_restore : MOK mX9_restore 0 := ⟨(wA_t 1089 rfl rfl), (wA_t 10 (by decide +kernel) rfl), by decide +kernel, by decide +kernel, by decide⟩
set_option maxRecDepth 20000 in
theorem okX9_isSheet : MOK mX9_isSheet 2 := ⟨(wA_t 1096 rfl rfl), (wA_t 10 (by decide +kernel) rfl), by decide +kernel, by decide +kernel, by decide⟩
set_option maxRecDepth 20000 in
theorem okX9_sheet : MOK mX9_sheet 3 := ⟨(wA_t 1093 rfl rfl), (wA_t 10 (by decide +kernel) rfl), by decide +kernel, by decide +kernel, by decide⟩
set_option maxRecDepth 20000 in
theorem okX9_drop : MOK mX9_drop 1 := ⟨(wA_t 1100 rfl rfl), (wA_t 10 (by decide +kernel) rfl), by decide +kernel, by decide +kernel, by decide⟩
set_option maxRecDepth 20000 in
theorem okX9_lacksRow : MOK mX9_lacksRow 4 := ⟨(wA_t 1108 rfl rfl), (wA_t 10 (by decide +kernel) rfl), by decide +kernel, by decide +kernel, by decide⟩
set_option maxRecDepth 20000 in
theorem okX9_item : MOK mX9_item 4 := ⟨(wA_t 1104 rfl rfl), (wA_t 10 (by decide +kernel) rfl), by decide +kernel, by decide +kernel, by decide⟩
set_option maxRecDepth 20000 in
theorem okX9_pays : MOK mX9_pays 4 := ⟨(wA_t 1112 rfl rfl), (wA_t 10 (by decide +kernel) rfl), by decide +kernel, by decide +kernel, by decide⟩
set_option maxRecDepth 20000 in
theorem okX9_judge : MOK mX9_judge 5 := ⟨(wA_t 1117 rfl rfl), (wA_t 10 (by decide +kernel) rfl), by decide +kernel, by decide +kernel, by decide⟩
set_option maxRecDepth 20000 in
theorem okJ11_isValidCodePoint_9a6ad : MOK mJ11_isValidCodePoint_9a6ad 1 := ⟨(wA_t 479 rfl rfl), (wA_t 16 (by decide +kernel) rfl), by decide +kernel, by decide +kernel, by decide⟩
set_option maxRecDepth 20000 in
theorem okJ11_highSurrogate_5068e : MOK mJ11_highSurrogate_5068e 1 := ⟨(wA_t 482 rfl rfl), (wA_t 16 (by decide +kernel) rfl), by decide +kernel, by decide +kernel, by decide⟩
set_option maxRecDepth 20000 in
theorem okJ11_lowSurrogate_5068e : MOK mJ11_lowSurrogate_5068e 1 := ⟨(wA_t 486 rfl rfl), (wA_t 16 (by decide +kernel) rfl), by decide +kernel, by decide +kernel, by decide⟩
set_option maxRecDepth 20000 in
theorem okJ6_compare_7cf53 : MOK mJ6_compare_7cf53 2 := ⟨(wA_t 600 rfl rfl), (wA_t 19 (by decide +kernel) rfl), by decide +kernel, by decide +kernel, by decide⟩
set_option maxRecDepth 20000 in
theorem okJ13_compare_74951 : MOK mJ13_compare_74951 2 := ⟨(wA_t 607 rfl rfl), (wA_t 20 (by decide +kernel) rfl), by decide +kernel, by decide +kernel, by decide⟩
set_option maxRecDepth 20000 in
theorem okJ0_length_8abf5 : MOK mJ0_length_8abf5 0 := ⟨(wA_t 419 rfl rfl), (wA_t 11 (by decide +kernel) rfl), by decide +kernel, by decide +kernel, by decide⟩
set_option maxRecDepth 20000 in
theorem okJ0_indexOf_0f7a4 : MOK mJ0_indexOf_0f7a4 1 := ⟨(wA_t 405 rfl rfl), (wA_t 11 (by decide +kernel) rfl), by decide +kernel, by decide +kernel, by decide⟩
set_option maxRecDepth 20000 in
theorem okJ0_indexOf_7cf53 : MOK mJ0_indexOf_7cf53 2 := ⟨(wA_t 409 rfl rfl), (wA_t 11 (by decide +kernel) rfl), by decide +kernel, by decide +kernel, by decide⟩
set_option maxRecDepth 20000 in
theorem okJ0_coder_7d493 : MOK mJ0_coder_7d493 0 := ⟨(wA_t 423 rfl rfl), (wA_t 11 (by decide +kernel) rfl), by decide +kernel, by decide +kernel, by decide⟩
set_option maxRecDepth 20000 in
theorem okJ0_isLatin1_aae02 : MOK mJ0_isLatin1_aae02 0 := ⟨(wA_t 413 rfl rfl), (wA_t 11 (by decide +kernel) rfl), by decide +kernel, by decide +kernel, by decide⟩
set_option maxRecDepth 20000 in
theorem okJ0_checkBoundsBeginEnd_23922 : MOK mJ0_checkBoundsBeginEnd_23922 3 := ⟨(wA_t 456 rfl rfl), (wA_t 11 (by decide +kernel) rfl), by decide +kernel, by decide +kernel, by decide⟩
set_option maxRecDepth 20000 in
theorem okJ1_canEncode_9a6ad : MOK mJ1_canEncode_9a6ad 1 := ⟨(wA_t 429 rfl rfl), (wA_t 12 (by decide +kernel) rfl), by decide +kernel, by decide +kernel, by decide⟩
set_option maxRecDepth 20000 in
theorem okJ1_indexOf_4cfef : MOK mJ1_indexOf_4cfef 4 := ⟨(wA_t 426 rfl rfl), (wA_t 12 (by decide +kernel) rfl), by decide +kernel, by decide +kernel, by decide⟩
set_option maxRecDepth 20000 in
theorem okJ1_indexOfChar_4cfef : MOK mJ1_indexOfChar_4cfef 4 := ⟨(wA_t 438 rfl rfl), (wA_t 12 (by decide +kernel) rfl), by decide +kernel, by decide +kernel, by decide⟩
set_option maxRecDepth 20000 in
theorem okJ2_getChar_3b067 : MOK mJ2_getChar_3b067 2 := ⟨(wA_t 467 rfl rfl), (wA_t 14 (by decide +kernel) rfl), by decide +kernel, by decide +kernel, by decide⟩
set_option maxRecDepth 20000 in
theorem okJ2_length_9d52b : MOK mJ2_length_9d52b 1 := ⟨(wA_t 453 rfl rfl), (wA_t 14 (by decide +kernel) rfl), by decide +kernel, by decide +kernel, by decide⟩
set_option maxRecDepth 20000 in
theorem okJ2_indexOf_4cfef : MOK mJ2_indexOf_4cfef 4 := ⟨(wA_t 441 rfl rfl), (wA_t 14 (by decide +kernel) rfl), by decide +kernel, by decide +kernel, by decide⟩
set_option maxRecDepth 20000 in
theorem okJ2_indexOfChar_4cfef : MOK mJ2_indexOfChar_4cfef 4 := ⟨(wA_t 447 rfl rfl), (wA_t 14 (by decide +kernel) rfl), by decide +kernel, by decide +kernel, by decide⟩
set_option maxRecDepth 20000 in
theorem okJ2_indexOfCharUnsafe_4cfef : MOK mJ2_indexOfCharUnsafe_4cfef 4 := ⟨(wA_t 464 rfl rfl), (wA_t 14 (by decide +kernel) rfl), by decide +kernel, by decide +kernel, by decide⟩
set_option maxRecDepth 20000 in
theorem okJ2_indexOfSupplementary_4cfef : MOK mJ2_indexOfSupplementary_4cfef 4 := ⟨(wA_t 476 rfl rfl), (wA_t 14 (by decide +kernel) rfl), by decide +kernel, by decide +kernel, by decide⟩
set_option maxRecDepth 20000 in
theorem okJ2_checkBoundsBeginEnd_d044e : MOK mJ2_checkBoundsBeginEnd_d044e 3 := ⟨(wA_t 450 rfl rfl), (wA_t 14 (by decide +kernel) rfl), by decide +kernel, by decide +kernel, by decide⟩
set_option maxRecDepth 20000 in
theorem okJ7_fill_d0a16 : MOK mJ7_fill_d0a16 2 := ⟨(wA_t 575 rfl rfl), (wA_t 18 (by decide +kernel) rfl), by decide +kernel, by decide +kernel, by decide⟩
set_option maxRecDepth 20000 in
theorem okJ7_fill_53178 : MOK mJ7_fill_53178 2 := ⟨(wA_t 684 rfl rfl), (wA_t 18 (by decide +kernel) rfl), by decide +kernel, by decide +kernel, by decide⟩
set_option maxRecDepth 20000 in
theorem okJ3_checkFromToIndex_8c36e : MOK mJ3_checkFromToIndex_8c36e 4 := ⟨(wA_t 461 rfl rfl), (wA_t 15 (by decide +kernel) rfl), by decide +kernel, by decide +kernel, by decide⟩
theorem ow_i : Cond.instanceMethod Lib.objectInit ∈ wA := (wA_t 27 (by decide +kernel) rfl)
theorem ow_c : Cond.code Lib.objectInit ⟨#[0xb1]⟩ 1 none ∈ wA := (wA_t 28 rfl rfl)
theorem lo_X0_3 : Cond.methodLink RX0 3 Lib.objectInit ∈ wA := (wA_t 34 (by decide +kernel) rfl)
theorem cl_X0_9 : Cond.classLink RX0 9 RX2 ∈ wA := (wA_t 35 (by decide +kernel) rfl)
theorem fo_X0_11 : FO RX0 11 0 0 := ⟨RX0, TX0, 5, rfl, by decide, wX0, (wA_t 112 (by decide +kernel) rfl)⟩
theorem fp_X0_11 : FP RX0 11 0 0 (.array (.object "PaidDebts$Debt")) true := ⟨RX0, TX0, 5, tyX0, rfl, by decide, wX0, (wA_t 112 (by decide +kernel) rfl), tyX0_ok, nmX0, rfl, by decide +kernel, fun _ => by decide +kernel⟩
theorem fo_X0_17 : FO RX0 17 0 1 := ⟨RX0, TX0, 5, rfl, by decide, wX0, (wA_t 115 (by decide +kernel) rfl)⟩
theorem fp_X0_17 : FP RX0 17 0 1 .int false := ⟨RX0, TX0, 5, tyX0, rfl, by decide, wX0, (wA_t 115 (by decide +kernel) rfl), tyX0_ok, nmX0, rfl, by decide +kernel, fun h => by cases h⟩
theorem cl_X0_21 : Cond.classLink RX0 21 RX4 ∈ wA := (wA_t 37 (by decide +kernel) rfl)
theorem fo_X0_23 : FO RX0 23 0 2 := ⟨RX0, TX0, 5, rfl, by decide, wX0, (wA_t 119 (by decide +kernel) rfl)⟩
theorem fp_X0_23 : FP RX0 23 0 2 (.array (.object "PaidDebts$Payment")) true := ⟨RX0, TX0, 5, tyX0, rfl, by decide, wX0, (wA_t 119 (by decide +kernel) rfl), tyX0_ok, nmX0, rfl, by decide +kernel, fun _ => by decide +kernel⟩
theorem fo_X0_27 : FO RX0 27 0 3 := ⟨RX0, TX0, 5, rfl, by decide, wX0, (wA_t 123 (by decide +kernel) rfl)⟩
theorem fp_X0_27 : FP RX0 27 0 3 .int false := ⟨RX0, TX0, 5, tyX0, rfl, by decide, wX0, (wA_t 123 (by decide +kernel) rfl), tyX0_ok, nmX0, rfl, by decide +kernel, fun h => by cases h⟩
theorem cl_X0_30 : Cond.classLink RX0 30 RX3 ∈ wA := (wA_t 39 (by decide +kernel) rfl)
theorem fo_X0_32 : FO RX0 32 0 4 := ⟨RX0, TX0, 5, rfl, by decide, wX0, (wA_t 126 (by decide +kernel) rfl)⟩
theorem fp_X0_32 : FP RX0 32 0 4 (.array (.object "PaidDebts$Law")) true := ⟨RX0, TX0, 5, tyX0, rfl, by decide, wX0, (wA_t 126 (by decide +kernel) rfl), tyX0_ok, nmX0, rfl, by decide +kernel, fun _ => by decide +kernel⟩
theorem no_X0_9 : NO RX0 9 2 [.int 0, .int 0, .null] := ⟨RX2, TX2, 3, tyX2, rfl, wX2, tyX2_ok, (wA_t 35 (by decide +kernel) rfl), (wA_t 41 (by decide +kernel) rfl), (wA_t 3 (by decide +kernel) rfl), by decide +kernel, rfl⟩
theorem lk_X0_36 : LKN RX0 36 mX2_init 0 := ⟨okX2_init, ⟨RX8, by decide +kernel⟩, (wA_t 43 (by decide +kernel) rfl), rfl, rfl⟩
theorem no_X0_21 : NO RX0 21 4 [.int 0, .int 0, .int 0, .int 0] := ⟨RX4, TX4, 4, tyX4, rfl, wX4, tyX4_ok, (wA_t 37 (by decide +kernel) rfl), (wA_t 62 (by decide +kernel) rfl), (wA_t 4 (by decide +kernel) rfl), by decide +kernel, rfl⟩
theorem lk_X0_37 : LKN RX0 37 mX4_init 0 := ⟨okX4_init, ⟨RX8, by decide +kernel⟩, (wA_t 64 (by decide +kernel) rfl), rfl, rfl⟩
theorem no_X0_30 : NO RX0 30 3 [.null, .int 0, .int 0] := ⟨RX3, TX3, 3, tyX3, rfl, wX3, tyX3_ok, (wA_t 39 (by decide +kernel) rfl), (wA_t 93 (by decide +kernel) rfl), (wA_t 5 (by decide +kernel) rfl), by decide +kernel, rfl⟩
theorem lk_X0_38 : LKN RX0 38 mX3_init 0 := ⟨okX3_init, ⟨RX8, by decide +kernel⟩, (wA_t 95 (by decide +kernel) rfl), rfl, rfl⟩
theorem fo_X0_39 : FO RX0 39 4 0 := ⟨RX4, TX4, 4, rfl, by decide, wX4, (wA_t 68 (by decide +kernel) rfl)⟩
theorem fp_X0_39 : FP RX0 39 4 0 .int false := ⟨RX4, TX4, 4, tyX4, rfl, by decide, wX4, (wA_t 68 (by decide +kernel) rfl), tyX4_ok, nmX4, rfl, by decide +kernel, fun h => by cases h⟩
theorem fo_X0_42 : FO RX0 42 4 1 := ⟨RX4, TX4, 4, rfl, by decide, wX4, (wA_t 73 (by decide +kernel) rfl)⟩
theorem fp_X0_42 : FP RX0 42 4 1 .int false := ⟨RX4, TX4, 4, tyX4, rfl, by decide, wX4, (wA_t 73 (by decide +kernel) rfl), tyX4_ok, nmX4, rfl, by decide +kernel, fun h => by cases h⟩
theorem fo_X0_45 : FO RX0 45 4 2 := ⟨RX4, TX4, 4, rfl, by decide, wX4, (wA_t 76 (by decide +kernel) rfl)⟩
theorem fp_X0_45 : FP RX0 45 4 2 .int false := ⟨RX4, TX4, 4, tyX4, rfl, by decide, wX4, (wA_t 76 (by decide +kernel) rfl), tyX4_ok, nmX4, rfl, by decide +kernel, fun h => by cases h⟩
theorem fo_X0_48 : FO RX0 48 4 3 := ⟨RX4, TX4, 4, rfl, by decide, wX4, (wA_t 81 (by decide +kernel) rfl)⟩
theorem fp_X0_48 : FP RX0 48 4 3 .int false := ⟨RX4, TX4, 4, tyX4, rfl, by decide, wX4, (wA_t 81 (by decide +kernel) rfl), tyX4_ok, nmX4, rfl, by decide +kernel, fun h => by cases h⟩
theorem fo_X0_51 : FO RX0 51 2 2 := ⟨RX2, TX2, 3, rfl, by decide, wX2, (wA_t 51 (by decide +kernel) rfl)⟩
theorem lk_X0_55 : LKV RX0 55 mX2_copyFrom 1 := ⟨okX2_copyFrom, (wA_t 518 (by decide +kernel) rfl), (wA_t 519 (by decide +kernel) rfl), (wA_t 520 (by decide +kernel) rfl)⟩
theorem lk_X0_59 : LKV RX0 59 mX4_copyFrom 1 := ⟨okX4_copyFrom, (wA_t 525 (by decide +kernel) rfl), (wA_t 526 (by decide +kernel) rfl), (wA_t 527 (by decide +kernel) rfl)⟩
theorem lk_X0_62 : LKV RX0 62 mX3_copyFrom 1 := ⟨okX3_copyFrom, (wA_t 529 (by decide +kernel) rfl), (wA_t 530 (by decide +kernel) rfl), (wA_t 531 (by decide +kernel) rfl)⟩
theorem lo_X1_3 : Cond.methodLink RX1 3 Lib.objectInit ∈ wA := (wA_t 145 (by decide +kernel) rfl)
theorem no_X1_9 : NO RX1 9 0 [.null, .int 0, .null, .int 0, .null] := ⟨RX0, TX0, 5, tyX0, rfl, wX0, tyX0_ok, (wA_t 146 (by decide +kernel) rfl), (wA_t 30 (by decide +kernel) rfl), (wA_t 2 (by decide +kernel) rfl), by decide +kernel, rfl⟩
theorem lk_X1_11 : LKI RX1 11 mX0_init 0 := ⟨okX0_init, (wA_t 147 (by decide +kernel) rfl), (wA_t 32 (by decide +kernel) rfl), rfl, rfl⟩
theorem fo_X1_12 : FO RX1 12 1 0 := ⟨RX1, TX1, 14, rfl, by decide, wX1, (wA_t 150 (by decide +kernel) rfl)⟩
theorem fp_X1_12 : FP RX1 12 1 0 (.object "PaidDebts$Book") true := ⟨RX1, TX1, 14, tyX1, rfl, by decide, wX1, (wA_t 150 (by decide +kernel) rfl), tyX1_ok, nmX1, rfl, by decide +kernel, fun _ => by decide +kernel⟩
theorem no_X1_18 : NO RX1 18 3 [.null, .int 0, .int 0] := ⟨RX3, TX3, 3, tyX3, rfl, wX3, tyX3_ok, (wA_t 148 (by decide +kernel) rfl), (wA_t 93 (by decide +kernel) rfl), (wA_t 5 (by decide +kernel) rfl), by decide +kernel, rfl⟩
theorem lk_X1_20 : LKN RX1 20 mX3_init 0 := ⟨okX3_init, ⟨RX8, by decide +kernel⟩, (wA_t 95 (by decide +kernel) rfl), rfl, rfl⟩
theorem fo_X1_21 : FO RX1 21 1 1 := ⟨RX1, TX1, 14, rfl, by decide, wX1, (wA_t 153 (by decide +kernel) rfl)⟩
theorem fp_X1_21 : FP RX1 21 1 1 (.object "PaidDebts$Law") true := ⟨RX1, TX1, 14, tyX1, rfl, by decide, wX1, (wA_t 153 (by decide +kernel) rfl), tyX1_ok, nmX1, rfl, by decide +kernel, fun _ => by decide +kernel⟩
theorem fo_X1_25 : FO RX1 25 1 2 := ⟨RX1, TX1, 14, rfl, by decide, wX1, (wA_t 154 (by decide +kernel) rfl)⟩
theorem fp_X1_25 : FP RX1 25 1 2 .int false := ⟨RX1, TX1, 14, tyX1, rfl, by decide, wX1, (wA_t 154 (by decide +kernel) rfl), tyX1_ok, nmX1, rfl, by decide +kernel, fun h => by cases h⟩
theorem fo_X1_29 : FO RX1 29 1 3 := ⟨RX1, TX1, 14, rfl, by decide, wX1, (wA_t 155 (by decide +kernel) rfl)⟩
theorem fp_X1_29 : FP RX1 29 1 3 .int false := ⟨RX1, TX1, 14, tyX1, rfl, by decide, wX1, (wA_t 155 (by decide +kernel) rfl), tyX1_ok, nmX1, rfl, by decide +kernel, fun h => by cases h⟩
theorem fo_X1_32 : FO RX1 32 1 4 := ⟨RX1, TX1, 14, rfl, by decide, wX1, (wA_t 156 (by decide +kernel) rfl)⟩
theorem fp_X1_32 : FP RX1 32 1 4 (.array .long) true := ⟨RX1, TX1, 14, tyX1, rfl, by decide, wX1, (wA_t 156 (by decide +kernel) rfl), tyX1_ok, nmX1, rfl, by decide +kernel, fun _ => by decide +kernel⟩
theorem fo_X1_36 : FO RX1 36 1 5 := ⟨RX1, TX1, 14, rfl, by decide, wX1, (wA_t 157 (by decide +kernel) rfl)⟩
theorem fp_X1_36 : FP RX1 36 1 5 (.array .long) true := ⟨RX1, TX1, 14, tyX1, rfl, by decide, wX1, (wA_t 157 (by decide +kernel) rfl), tyX1_ok, nmX1, rfl, by decide +kernel, fun _ => by decide +kernel⟩
theorem fo_X1_39 : FO RX1 39 1 6 := ⟨RX1, TX1, 14, rfl, by decide, wX1, (wA_t 158 (by decide +kernel) rfl)⟩
theorem fp_X1_39 : FP RX1 39 1 6 (.array .int) true := ⟨RX1, TX1, 14, tyX1, rfl, by decide, wX1, (wA_t 158 (by decide +kernel) rfl), tyX1_ok, nmX1, rfl, by decide +kernel, fun _ => by decide +kernel⟩
theorem fo_X1_43 : FO RX1 43 1 7 := ⟨RX1, TX1, 14, rfl, by decide, wX1, (wA_t 159 (by decide +kernel) rfl)⟩
theorem fp_X1_43 : FP RX1 43 1 7 (.array .int) true := ⟨RX1, TX1, 14, tyX1, rfl, by decide, wX1, (wA_t 159 (by decide +kernel) rfl), tyX1_ok, nmX1, rfl, by decide +kernel, fun _ => by decide +kernel⟩
theorem fo_X1_46 : FO RX1 46 1 8 := ⟨RX1, TX1, 14, rfl, by decide, wX1, (wA_t 161 (by decide +kernel) rfl)⟩
theorem fp_X1_46 : FP RX1 46 1 8 (.array .int) true := ⟨RX1, TX1, 14, tyX1, rfl, by decide, wX1, (wA_t 161 (by decide +kernel) rfl), tyX1_ok, nmX1, rfl, by decide +kernel, fun _ => by decide +kernel⟩
theorem fo_X1_49 : FO RX1 49 1 9 := ⟨RX1, TX1, 14, rfl, by decide, wX1, (wA_t 163 (by decide +kernel) rfl)⟩
theorem fp_X1_49 : FP RX1 49 1 9 (.array .boolean) true := ⟨RX1, TX1, 14, tyX1, rfl, by decide, wX1, (wA_t 163 (by decide +kernel) rfl), tyX1_ok, nmX1, rfl, by decide +kernel, fun _ => by decide +kernel⟩
theorem fo_X1_53 : FO RX1 53 1 10 := ⟨RX1, TX1, 14, rfl, by decide, wX1, (wA_t 165 (by decide +kernel) rfl)⟩
theorem fp_X1_53 : FP RX1 53 1 10 (.array .int) true := ⟨RX1, TX1, 14, tyX1, rfl, by decide, wX1, (wA_t 165 (by decide +kernel) rfl), tyX1_ok, nmX1, rfl, by decide +kernel, fun _ => by decide +kernel⟩
theorem fo_X1_56 : FO RX1 56 1 11 := ⟨RX1, TX1, 14, rfl, by decide, wX1, (wA_t 167 (by decide +kernel) rfl)⟩
theorem fp_X1_56 : FP RX1 56 1 11 (.array .long) true := ⟨RX1, TX1, 14, tyX1, rfl, by decide, wX1, (wA_t 167 (by decide +kernel) rfl), tyX1_ok, nmX1, rfl, by decide +kernel, fun _ => by decide +kernel⟩
theorem fo_X1_59 : FO RX1 59 1 12 := ⟨RX1, TX1, 14, rfl, by decide, wX1, (wA_t 169 (by decide +kernel) rfl)⟩
theorem fp_X1_59 : FP RX1 59 1 12 (.array .long) true := ⟨RX1, TX1, 14, tyX1, rfl, by decide, wX1, (wA_t 169 (by decide +kernel) rfl), tyX1_ok, nmX1, rfl, by decide +kernel, fun _ => by decide +kernel⟩
theorem fo_X1_62 : FO RX1 62 1 13 := ⟨RX1, TX1, 14, rfl, by decide, wX1, (wA_t 171 (by decide +kernel) rfl)⟩
theorem fp_X1_62 : FP RX1 62 1 13 .long false := ⟨RX1, TX1, 14, tyX1, rfl, by decide, wX1, (wA_t 171 (by decide +kernel) rfl), tyX1_ok, nmX1, rfl, by decide +kernel, fun h => by cases h⟩
theorem lk_X1_66 : LKV RX1 66 mX0_copyFrom 1 := ⟨okX0_copyFrom, (wA_t 514 (by decide +kernel) rfl), (wA_t 515 (by decide +kernel) rfl), (wA_t 516 (by decide +kernel) rfl)⟩
theorem fo_X1_70 : FO RX1 70 0 4 := ⟨RX0, TX0, 5, rfl, by decide, wX0, (wA_t 127 (by decide +kernel) rfl)⟩
theorem lk_X1_74 : LKV RX1 74 mX3_copyFrom 1 := ⟨okX3_copyFrom, (wA_t 534 (by decide +kernel) rfl), (wA_t 530 (by decide +kernel) rfl), (wA_t 531 (by decide +kernel) rfl)⟩
theorem fo_X1_77 : FO RX1 77 0 1 := ⟨RX0, TX0, 5, rfl, by decide, wX0, (wA_t 117 (by decide +kernel) rfl)⟩
theorem fo_X1_80 : FO RX1 80 0 0 := ⟨RX0, TX0, 5, rfl, by decide, wX0, (wA_t 114 (by decide +kernel) rfl)⟩
theorem fo_X1_84 : FO RX1 84 2 0 := ⟨RX2, TX2, 3, rfl, by decide, wX2, (wA_t 47 (by decide +kernel) rfl)⟩
theorem kl_X1_89 : Cond.constantLong RX1 89 (lI (10000)) ∈ wA := (wA_t 535 (by decide +kernel) rfl)
theorem lc_X1_91 : LKC RX1 91 := ⟨(wA_t 711 (by decide +kernel) rfl), (wA_t 524 (by decide +kernel) rfl), (wA_t 523 (by decide +kernel) rfl), (wA_t 17 (by decide +kernel) rfl)⟩
theorem lk_X1_97 : LKV RX1 97 mX1_goBehind 1 := ⟨okX1_goBehind, (wA_t 658 (by decide +kernel) rfl), (wA_t 537 (by decide +kernel) rfl), (wA_t 538 (by decide +kernel) rfl)⟩
theorem lk_X1_101 : LKV RX1 101 mX1_runTo 1 := ⟨okX1_runTo, (wA_t 548 (by decide +kernel) rfl), (wA_t 549 (by decide +kernel) rfl), (wA_t 550 (by decide +kernel) rfl)⟩
theorem lk_X1_104 : LKV RX1 104 mX1_nextPayment 1 := ⟨okX1_nextPayment, (wA_t 540 (by decide +kernel) rfl), (wA_t 541 (by decide +kernel) rfl), (wA_t 542 (by decide +kernel) rfl)⟩
theorem lk_X1_108 : LKV RX1 108 mX1_take 1 := ⟨okX1_take, (wA_t 544 (by decide +kernel) rfl), (wA_t 545 (by decide +kernel) rfl), (wA_t 546 (by decide +kernel) rfl)⟩
theorem fo_X1_111 : FO RX1 111 0 3 := ⟨RX0, TX0, 5, rfl, by decide, wX0, (wA_t 125 (by decide +kernel) rfl)⟩
theorem fo_X1_114 : FO RX1 114 0 2 := ⟨RX0, TX0, 5, rfl, by decide, wX0, (wA_t 122 (by decide +kernel) rfl)⟩
theorem fo_X1_118 : FO RX1 118 4 0 := ⟨RX4, TX4, 4, rfl, by decide, wX4, (wA_t 71 (by decide +kernel) rfl)⟩
theorem fo_X1_121 : FO RX1 121 4 1 := ⟨RX4, TX4, 4, rfl, by decide, wX4, (wA_t 74 (by decide +kernel) rfl)⟩
theorem lk_X1_122 : LKV RX1 122 mX1_chosenDebt 1 := ⟨okX1_chosenDebt, (wA_t 557 (by decide +kernel) rfl), (wA_t 559 (by decide +kernel) rfl), (wA_s 5 (by decide +kernel) rfl)⟩
theorem lk_X1_126 : LKV RX1 126 mX1_distribute 2 := ⟨okX1_distribute, (wA_t 569 (by decide +kernel) rfl), (wA_t 570 (by decide +kernel) rfl), (wA_t 571 (by decide +kernel) rfl)⟩
theorem fo_X1_130 : FO RX1 130 2 1 := ⟨RX2, TX2, 3, rfl, by decide, wX2, (wA_t 49 (by decide +kernel) rfl)⟩
theorem lmx_X1_133 : Cond.methodLink RX1 133 Lib.Math.max.name ∈ wA := (wA_t 552 (by decide +kernel) rfl)
theorem lk_X1_139 : LKV RX1 139 mX1_runOn 2 := ⟨okX1_runOn, (wA_t 553 (by decide +kernel) rfl), (wA_t 555 (by decide +kernel) rfl), (wA_s 4 (by decide +kernel) rfl)⟩
theorem fo_X1_143 : FO RX1 143 2 2 := ⟨RX2, TX2, 3, rfl, by decide, wX2, (wA_t 53 (by decide +kernel) rfl)⟩
theorem lk_X1_146 : LKV RX1 146 mX1_sumLeft 1 := ⟨okX1_sumLeft, (wA_t 624 (by decide +kernel) rfl), (wA_t 613 (by decide +kernel) rfl), (wA_t 614 (by decide +kernel) rfl)⟩
theorem lk_X1_150 : LKV RX1 150 mX1_runLeft 1 := ⟨okX1_runLeft, (wA_t 625 (by decide +kernel) rfl), (wA_t 617 (by decide +kernel) rfl), (wA_t 618 (by decide +kernel) rfl)⟩
theorem lk_X1_153 : LKV RX1 153 mX1_leftOf 1 := ⟨okX1_leftOf, (wA_t 634 (by decide +kernel) rfl), (wA_t 621 (by decide +kernel) rfl), (wA_t 622 (by decide +kernel) rfl)⟩
theorem lk_X1_156 : LKV RX1 156 mX1_isOpen 1 := ⟨okX1_isOpen, (wA_t 565 (by decide +kernel) rfl), (wA_t 566 (by decide +kernel) rfl), (wA_t 567 (by decide +kernel) rfl)⟩
theorem lk_X1_160 : LKV RX1 160 mX3_has 1 := ⟨okX3_has, (wA_t 561 (by decide +kernel) rfl), (wA_t 562 (by decide +kernel) rfl), (wA_t 563 (by decide +kernel) rfl)⟩
theorem lk_X1_163 : LKV RX1 163 mX1_compareByKeys 2 := ⟨okX1_compareByKeys, (wA_t 591 (by decide +kernel) rfl), (wA_t 593 (by decide +kernel) rfl), (wA_s 7 (by decide +kernel) rfl)⟩
theorem fo_X1_166 : FO RX1 166 3 1 := ⟨RX3, TX3, 3, rfl, by decide, wX3, (wA_t 103 (by decide +kernel) rfl)⟩
theorem fo_X1_169 : FO RX1 169 3 0 := ⟨RX3, TX3, 3, rfl, by decide, wX3, (wA_t 100 (by decide +kernel) rfl)⟩
theorem lk_X1_172 : LKS RX1 172 mX1_firstIf 2 := ⟨okX1_firstIf, (wA_t 595 (by decide +kernel) rfl), (wA_t 596 (by decide +kernel) rfl)⟩
theorem lk_X1_176 : LKS RX1 176 mJ6_compare_7cf53 2 := ⟨okJ6_compare_7cf53, (wA_t 598 (by decide +kernel) rfl), (wA_t 599 (by decide +kernel) rfl)⟩
theorem lk_X1_181 : LKV RX1 181 mX2_isSecured 0 := ⟨okX2_isSecured, (wA_t 601 (by decide +kernel) rfl), (wA_t 602 (by decide +kernel) rfl), (wA_t 603 (by decide +kernel) rfl)⟩
theorem lk_X1_185 : LKS RX1 185 mJ13_compare_74951 2 := ⟨okJ13_compare_74951, (wA_t 605 (by decide +kernel) rfl), (wA_t 606 (by decide +kernel) rfl)⟩
theorem fo_X1_190 : FO RX1 190 4 2 := ⟨RX4, TX4, 4, rfl, by decide, wX4, (wA_t 79 (by decide +kernel) rfl)⟩
theorem fo_X1_193 : FO RX1 193 4 3 := ⟨RX4, TX4, 4, rfl, by decide, wX4, (wA_t 83 (by decide +kernel) rfl)⟩
theorem lk_X1_196 : LKS RX1 196 mJ7_fill_d0a16 2 := ⟨okJ7_fill_d0a16, (wA_t 573 (by decide +kernel) rfl), (wA_t 574 (by decide +kernel) rfl)⟩
theorem lk_X1_202 : LKV RX1 202 mX1_findDead 0 := ⟨okX1_findDead, (wA_t 576 (by decide +kernel) rfl), (wA_t 577 (by decide +kernel) rfl), (wA_t 578 (by decide +kernel) rfl)⟩
theorem lk_X1_205 : LKV RX1 205 mX1_give 2 := ⟨okX1_give, (wA_t 580 (by decide +kernel) rfl), (wA_t 582 (by decide +kernel) rfl), (wA_s 6 (by decide +kernel) rfl)⟩
theorem lk_X1_209 : LKV RX1 209 mX1_orderOpen 0 := ⟨okX1_orderOpen, (wA_t 587 (by decide +kernel) rfl), (wA_t 588 (by decide +kernel) rfl), (wA_t 589 (by decide +kernel) rfl)⟩
theorem lk_X1_213 : LKV RX1 213 mX1_share 3 := ⟨okX1_share, (wA_t 608 (by decide +kernel) rfl), (wA_t 610 (by decide +kernel) rfl), (wA_s 8 (by decide +kernel) rfl)⟩
theorem lln_X1_217 : Cond.methodLink RX1 217 Lib.MathLoose.min_long.x ∈ wA := (wA_t 584 (by decide +kernel) rfl)
theorem lo_X2_3 : Cond.methodLink RX2 3 Lib.objectInit ∈ wA := (wA_t 45 (by decide +kernel) rfl)
theorem fo_X2_9 : FO RX2 9 2 2 := ⟨RX2, TX2, 3, rfl, by decide, wX2, (wA_t 50 (by decide +kernel) rfl)⟩
theorem fp_X2_9 : FP RX2 9 2 2 (.array .int) true := ⟨RX2, TX2, 3, tyX2, rfl, by decide, wX2, (wA_t 50 (by decide +kernel) rfl), tyX2_ok, nmX2, rfl, by decide +kernel, fun _ => by decide +kernel⟩
theorem fo_X2_15 : FO RX2 15 2 0 := ⟨RX2, TX2, 3, rfl, by decide, wX2, (wA_t 46 (by decide +kernel) rfl)⟩
theorem fp_X2_15 : FP RX2 15 2 0 .int false := ⟨RX2, TX2, 3, tyX2, rfl, by decide, wX2, (wA_t 46 (by decide +kernel) rfl), tyX2_ok, nmX2, rfl, by decide +kernel, fun h => by cases h⟩
theorem fo_X2_19 : FO RX2 19 2 1 := ⟨RX2, TX2, 3, rfl, by decide, wX2, (wA_t 48 (by decide +kernel) rfl)⟩
theorem fp_X2_19 : FP RX2 19 2 1 .int false := ⟨RX2, TX2, 3, tyX2, rfl, by decide, wX2, (wA_t 48 (by decide +kernel) rfl), tyX2_ok, nmX2, rfl, by decide +kernel, fun h => by cases h⟩
theorem lc_X2_22 : LKC RX2 22 := ⟨(wA_t 522 (by decide +kernel) rfl), (wA_t 524 (by decide +kernel) rfl), (wA_t 523 (by decide +kernel) rfl), (wA_t 17 (by decide +kernel) rfl)⟩
theorem lo_X3_3 : Cond.methodLink RX3 3 Lib.objectInit ∈ wA := (wA_t 97 (by decide +kernel) rfl)
theorem fo_X3_9 : FO RX3 9 3 0 := ⟨RX3, TX3, 3, rfl, by decide, wX3, (wA_t 98 (by decide +kernel) rfl)⟩
theorem fp_X3_9 : FP RX3 9 3 0 (.array .int) true := ⟨RX3, TX3, 3, tyX3, rfl, by decide, wX3, (wA_t 98 (by decide +kernel) rfl), tyX3_ok, nmX3, rfl, by decide +kernel, fun _ => by decide +kernel⟩
theorem fo_X3_15 : FO RX3 15 3 1 := ⟨RX3, TX3, 3, rfl, by decide, wX3, (wA_t 101 (by decide +kernel) rfl)⟩
theorem fp_X3_15 : FP RX3 15 3 1 .int false := ⟨RX3, TX3, 3, tyX3, rfl, by decide, wX3, (wA_t 101 (by decide +kernel) rfl), tyX3_ok, nmX3, rfl, by decide +kernel, fun h => by cases h⟩
theorem fo_X3_19 : FO RX3 19 3 2 := ⟨RX3, TX3, 3, rfl, by decide, wX3, (wA_t 104 (by decide +kernel) rfl)⟩
theorem fp_X3_19 : FP RX3 19 3 2 .int false := ⟨RX3, TX3, 3, tyX3, rfl, by decide, wX3, (wA_t 104 (by decide +kernel) rfl), tyX3_ok, nmX3, rfl, by decide +kernel, fun h => by cases h⟩
theorem fo_X3_22 : FO RX3 22 6 1 := ⟨RX6, TX6, 2, rfl, by decide, wX6, (wA_t 246 (by decide +kernel) rfl)⟩
theorem fo_X3_25 : FO RX3 25 6 0 := ⟨RX6, TX6, 2, rfl, by decide, wX6, (wA_t 244 (by decide +kernel) rfl)⟩
theorem lk_X3_28 : LKS RX3 28 mX3_bitOf 1 := ⟨okX3_bitOf, (wA_t 495 (by decide +kernel) rfl), (wA_t 489 (by decide +kernel) rfl)⟩
theorem lc_X3_32 : LKC RX3 32 := ⟨(wA_t 533 (by decide +kernel) rfl), (wA_t 524 (by decide +kernel) rfl), (wA_t 523 (by decide +kernel) rfl), (wA_t 17 (by decide +kernel) rfl)⟩
theorem lo_X4_3 : Cond.methodLink RX4 3 Lib.objectInit ∈ wA := (wA_t 66 (by decide +kernel) rfl)
theorem fo_X4_9 : FO RX4 9 4 2 := ⟨RX4, TX4, 4, rfl, by decide, wX4, (wA_t 75 (by decide +kernel) rfl)⟩
theorem fp_X4_9 : FP RX4 9 4 2 .int false := ⟨RX4, TX4, 4, tyX4, rfl, by decide, wX4, (wA_t 75 (by decide +kernel) rfl), tyX4_ok, nmX4, rfl, by decide +kernel, fun h => by cases h⟩
theorem fo_X4_15 : FO RX4 15 4 3 := ⟨RX4, TX4, 4, rfl, by decide, wX4, (wA_t 80 (by decide +kernel) rfl)⟩
theorem fp_X4_15 : FP RX4 15 4 3 .int false := ⟨RX4, TX4, 4, tyX4, rfl, by decide, wX4, (wA_t 80 (by decide +kernel) rfl), tyX4_ok, nmX4, rfl, by decide +kernel, fun h => by cases h⟩
theorem fo_X4_18 : FO RX4 18 4 0 := ⟨RX4, TX4, 4, rfl, by decide, wX4, (wA_t 67 (by decide +kernel) rfl)⟩
theorem fp_X4_18 : FP RX4 18 4 0 .int false := ⟨RX4, TX4, 4, tyX4, rfl, by decide, wX4, (wA_t 67 (by decide +kernel) rfl), tyX4_ok, nmX4, rfl, by decide +kernel, fun h => by cases h⟩
theorem fo_X4_21 : FO RX4 21 4 1 := ⟨RX4, TX4, 4, rfl, by decide, wX4, (wA_t 72 (by decide +kernel) rfl)⟩
theorem fp_X4_21 : FP RX4 21 4 1 .int false := ⟨RX4, TX4, 4, tyX4, rfl, by decide, wX4, (wA_t 72 (by decide +kernel) rfl), tyX4_ok, nmX4, rfl, by decide +kernel, fun h => by cases h⟩
theorem lo_X5_3 : Cond.methodLink RX5 3 Lib.objectInit ∈ wA := (wA_t 259 (by decide +kernel) rfl)
theorem fo_X5_9 : FO RX5 9 5 0 := ⟨RX5, TX5, 4, rfl, by decide, wX5, (wA_t 260 (by decide +kernel) rfl)⟩
theorem fp_X5_9 : FP RX5 9 5 0 .boolean false := ⟨RX5, TX5, 4, tyX5, rfl, by decide, wX5, (wA_t 260 (by decide +kernel) rfl), tyX5_ok, nmX5, rfl, by decide +kernel, fun h => by cases h⟩
theorem fo_X5_15 : FO RX5 15 5 1 := ⟨RX5, TX5, 4, rfl, by decide, wX5, (wA_t 262 (by decide +kernel) rfl)⟩
theorem fp_X5_15 : FP RX5 15 5 1 .int false := ⟨RX5, TX5, 4, tyX5, rfl, by decide, wX5, (wA_t 262 (by decide +kernel) rfl), tyX5_ok, nmX5, rfl, by decide +kernel, fun h => by cases h⟩
theorem fo_X5_19 : FO RX5 19 5 2 := ⟨RX5, TX5, 4, rfl, by decide, wX5, (wA_t 264 (by decide +kernel) rfl)⟩
theorem fp_X5_19 : FP RX5 19 5 2 (.array .int) true := ⟨RX5, TX5, 4, tyX5, rfl, by decide, wX5, (wA_t 264 (by decide +kernel) rfl), tyX5_ok, nmX5, rfl, by decide +kernel, fun _ => by decide +kernel⟩
theorem fo_X5_23 : FO RX5 23 5 3 := ⟨RX5, TX5, 4, rfl, by decide, wX5, (wA_t 266 (by decide +kernel) rfl)⟩
theorem fp_X5_23 : FP RX5 23 5 3 .int false := ⟨RX5, TX5, 4, tyX5, rfl, by decide, wX5, (wA_t 266 (by decide +kernel) rfl), tyX5_ok, nmX5, rfl, by decide +kernel, fun h => by cases h⟩
theorem lk_X5_26 : LKS RX5 26 mJ7_fill_53178 2 := ⟨okJ7_fill_53178, (wA_t 771 (by decide +kernel) rfl), (wA_t 683 (by decide +kernel) rfl)⟩
theorem lo_X6_3 : Cond.methodLink RX6 3 Lib.objectInit ∈ wA := (wA_t 242 (by decide +kernel) rfl)
theorem fo_X6_9 : FO RX6 9 6 0 := ⟨RX6, TX6, 2, rfl, by decide, wX6, (wA_t 243 (by decide +kernel) rfl)⟩
theorem fp_X6_9 : FP RX6 9 6 0 (.array .int) true := ⟨RX6, TX6, 2, tyX6, rfl, by decide, wX6, (wA_t 243 (by decide +kernel) rfl), tyX6_ok, nmX6, rfl, by decide +kernel, fun _ => by decide +kernel⟩
theorem fo_X6_15 : FO RX6 15 6 1 := ⟨RX6, TX6, 2, rfl, by decide, wX6, (wA_t 245 (by decide +kernel) rfl)⟩
theorem fp_X6_15 : FP RX6 15 6 1 .int false := ⟨RX6, TX6, 2, tyX6, rfl, by decide, wX6, (wA_t 245 (by decide +kernel) rfl), tyX6_ok, nmX6, rfl, by decide +kernel, fun h => by cases h⟩
theorem lk_X6_21 : LKV RX6 21 mJ0_indexOf_0f7a4 1 := ⟨okJ0_indexOf_0f7a4, (wA_t 402 (by decide +kernel) rfl), (wA_t 403 (by decide +kernel) rfl), (wA_t 404 (by decide +kernel) rfl)⟩
theorem lk_X6_27 : LKS RX6 27 mX3_bitOf 1 := ⟨okX3_bitOf, (wA_t 488 (by decide +kernel) rfl), (wA_t 489 (by decide +kernel) rfl)⟩
theorem lo_X7_3 : Cond.methodLink RX7 3 Lib.objectInit ∈ wA := (wA_t 209 (by decide +kernel) rfl)
theorem fo_X7_9 : FO RX7 9 7 0 := ⟨RX7, TX7, 7, rfl, by decide, wX7, (wA_t 213 (by decide +kernel) rfl)⟩
theorem fp_X7_9 : FP RX7 9 7 0 (.array .int) true := ⟨RX7, TX7, 7, tyX7, rfl, by decide, wX7, (wA_t 213 (by decide +kernel) rfl), tyX7_ok, nmX7, rfl, by decide +kernel, fun _ => by decide +kernel⟩
theorem fo_X7_15 : FO RX7 15 7 1 := ⟨RX7, TX7, 7, rfl, by decide, wX7, (wA_t 215 (by decide +kernel) rfl)⟩
theorem fp_X7_15 : FP RX7 15 7 1 .long false := ⟨RX7, TX7, 7, tyX7, rfl, by decide, wX7, (wA_t 215 (by decide +kernel) rfl), tyX7_ok, nmX7, rfl, by decide +kernel, fun h => by cases h⟩
theorem fo_X7_19 : FO RX7 19 7 2 := ⟨RX7, TX7, 7, rfl, by decide, wX7, (wA_t 217 (by decide +kernel) rfl)⟩
theorem fp_X7_19 : FP RX7 19 7 2 .boolean false := ⟨RX7, TX7, 7, tyX7, rfl, by decide, wX7, (wA_t 217 (by decide +kernel) rfl), tyX7_ok, nmX7, rfl, by decide +kernel, fun h => by cases h⟩
theorem fo_X7_23 : FO RX7 23 7 3 := ⟨RX7, TX7, 7, rfl, by decide, wX7, (wA_t 218 (by decide +kernel) rfl)⟩
theorem fp_X7_23 : FP RX7 23 7 3 (.array .int) true := ⟨RX7, TX7, 7, tyX7, rfl, by decide, wX7, (wA_t 218 (by decide +kernel) rfl), tyX7_ok, nmX7, rfl, by decide +kernel, fun _ => by decide +kernel⟩
theorem cl_X7_26 : Cond.classLink RX7 26 RX1 ∈ wA := (wA_t 210 (by decide +kernel) rfl)
theorem fo_X7_28 : FO RX7 28 7 4 := ⟨RX7, TX7, 7, rfl, by decide, wX7, (wA_t 219 (by decide +kernel) rfl)⟩
theorem fp_X7_28 : FP RX7 28 7 4 (.array (.object "PaidDebts$Course")) true := ⟨RX7, TX7, 7, tyX7, rfl, by decide, wX7, (wA_t 219 (by decide +kernel) rfl), tyX7_ok, nmX7, rfl, by decide +kernel, fun _ => by decide +kernel⟩
theorem fo_X7_32 : FO RX7 32 7 5 := ⟨RX7, TX7, 7, rfl, by decide, wX7, (wA_t 220 (by decide +kernel) rfl)⟩
theorem fp_X7_32 : FP RX7 32 7 5 .int false := ⟨RX7, TX7, 7, tyX7, rfl, by decide, wX7, (wA_t 220 (by decide +kernel) rfl), tyX7_ok, nmX7, rfl, by decide +kernel, fun h => by cases h⟩
theorem fo_X7_36 : FO RX7 36 7 6 := ⟨RX7, TX7, 7, rfl, by decide, wX7, (wA_t 221 (by decide +kernel) rfl)⟩
theorem fp_X7_36 : FP RX7 36 7 6 .int false := ⟨RX7, TX7, 7, tyX7, rfl, by decide, wX7, (wA_t 221 (by decide +kernel) rfl), tyX7_ok, nmX7, rfl, by decide +kernel, fun h => by cases h⟩
theorem no_X7_26 : NO RX7 26 1 [.null, .null, .int 0, .int 0, .null, .null, .null, .null, .null, .null, .null, .null, .null, .long 0] := ⟨RX1, TX1, 14, tyX1, rfl, wX1, tyX1_ok, (wA_t 210 (by decide +kernel) rfl), (wA_t 141 (by decide +kernel) rfl), (wA_t 6 (by decide +kernel) rfl), by decide +kernel, rfl⟩
theorem lk_X7_39 : LKN RX7 39 mX1_init 0 := ⟨okX1_init, ⟨RX8, by decide +kernel⟩, (wA_t 143 (by decide +kernel) rfl), rfl, rfl⟩
theorem lk_X7_40 : LKS RX7 40 mJ7_fill_53178 2 := ⟨okJ7_fill_53178, (wA_t 682 (by decide +kernel) rfl), (wA_t 683 (by decide +kernel) rfl)⟩
theorem lk_X7_46 : LKV RX7 46 mX1_start 2 := ⟨okX1_start, (wA_t 685 (by decide +kernel) rfl), (wA_t 511 (by decide +kernel) rfl), (wA_t 512 (by decide +kernel) rfl)⟩
theorem lk_X7_50 : LKV RX7 50 mX7_tryFrom 1 := ⟨okX7_tryFrom, (wA_t 686 (by decide +kernel) rfl), (wA_t 688 (by decide +kernel) rfl), (wA_s 9 (by decide +kernel) rfl)⟩
theorem lk_X7_54 : LKV RX7 54 mX1_nextPayment 1 := ⟨okX1_nextPayment, (wA_t 690 (by decide +kernel) rfl), (wA_t 541 (by decide +kernel) rfl), (wA_t 542 (by decide +kernel) rfl)⟩
theorem lk_X7_58 : LKV RX7 58 mX1_take 1 := ⟨okX1_take, (wA_t 691 (by decide +kernel) rfl), (wA_t 545 (by decide +kernel) rfl), (wA_t 546 (by decide +kernel) rfl)⟩
theorem lk_X7_61 : LKV RX7 61 mX1_runTo 1 := ⟨okX1_runTo, (wA_t 692 (by decide +kernel) rfl), (wA_t 549 (by decide +kernel) rfl), (wA_t 550 (by decide +kernel) rfl)⟩
theorem lk_X7_64 : LKV RX7 64 mX1_owedNow 0 := ⟨okX1_owedNow, (wA_t 693 (by decide +kernel) rfl), (wA_t 631 (by decide +kernel) rfl), (wA_t 632 (by decide +kernel) rfl)⟩
theorem lk_X7_68 : LKV RX7 68 mX7_weigh 1 := ⟨okX7_weigh, (wA_t 694 (by decide +kernel) rfl), (wA_t 696 (by decide +kernel) rfl), (wA_s 10 (by decide +kernel) rfl)⟩
theorem fo_X7_72 : FO RX7 72 1 0 := ⟨RX1, TX1, 14, rfl, by decide, wX1, (wA_t 151 (by decide +kernel) rfl)⟩
theorem fo_X7_76 : FO RX7 76 0 2 := ⟨RX0, TX0, 5, rfl, by decide, wX0, (wA_t 120 (by decide +kernel) rfl)⟩
theorem fo_X7_82 : FO RX7 82 4 0 := ⟨RX4, TX4, 4, rfl, by decide, wX4, (wA_t 69 (by decide +kernel) rfl)⟩
theorem fo_X7_85 : FO RX7 85 0 1 := ⟨RX0, TX0, 5, rfl, by decide, wX0, (wA_t 118 (by decide +kernel) rfl)⟩
theorem lk_X7_88 : LKV RX7 88 mX1_heedsWord 1 := ⟨okX1_heedsWord, (wA_t 703 (by decide +kernel) rfl), (wA_t 704 (by decide +kernel) rfl), (wA_t 705 (by decide +kernel) rfl)⟩
theorem lk_X7_92 : LKV RX7 92 mX1_standWith 1 := ⟨okX1_standWith, (wA_t 707 (by decide +kernel) rfl), (wA_t 708 (by decide +kernel) rfl), (wA_t 709 (by decide +kernel) rfl)⟩
theorem fo_X7_96 : FO RX7 96 4 2 := ⟨RX4, TX4, 4, rfl, by decide, wX4, (wA_t 77 (by decide +kernel) rfl)⟩
theorem fp_X7_96 : FP RX7 96 4 2 .int false := ⟨RX4, TX4, 4, tyX4, rfl, by decide, wX4, (wA_t 77 (by decide +kernel) rfl), tyX4_ok, nmX4, rfl, by decide +kernel, fun h => by cases h⟩
theorem lk_X7_99 : LKV RX7 99 mX7_isTriedAhead 0 := ⟨okX7_isTriedAhead, (wA_t 698 (by decide +kernel) rfl), (wA_t 700 (by decide +kernel) rfl), (wA_s 11 (by decide +kernel) rfl)⟩
theorem lc_X7_103 : LKC RX7 103 := ⟨(wA_t 702 (by decide +kernel) rfl), (wA_t 524 (by decide +kernel) rfl), (wA_t 523 (by decide +kernel) rfl), (wA_t 17 (by decide +kernel) rfl)⟩
theorem lo_X8_1 : Cond.methodLink RX8 1 Lib.objectInit ∈ wA := (wA_t 26 (by decide +kernel) rfl)
theorem no_X8_7 : NO RX8 7 0 [.null, .int 0, .null, .int 0, .null] := ⟨RX0, TX0, 5, tyX0, rfl, wX0, tyX0_ok, (wA_t 29 (by decide +kernel) rfl), (wA_t 30 (by decide +kernel) rfl), (wA_t 2 (by decide +kernel) rfl), by decide +kernel, rfl⟩
theorem lk_X8_9 : LKI RX8 9 mX0_init 0 := ⟨okX0_init, (wA_t 31 (by decide +kernel) rfl), (wA_t 32 (by decide +kernel) rfl), rfl, rfl⟩
theorem fo_X8_10 : FO RX8 10 8 0 := ⟨RX8, TX8, 8, rfl, by decide, wX8, (wA_t 276 (by decide +kernel) rfl)⟩
theorem fp_X8_10 : FP RX8 10 8 0 (.object "PaidDebts$Book") true := ⟨RX8, TX8, 8, tyX8, rfl, by decide, wX8, (wA_t 276 (by decide +kernel) rfl), tyX8_ok, nmX8, rfl, by decide +kernel, fun _ => by decide +kernel⟩
theorem fo_X8_16 : FO RX8 16 8 1 := ⟨RX8, TX8, 8, rfl, by decide, wX8, (wA_t 277 (by decide +kernel) rfl)⟩
theorem fp_X8_16 : FP RX8 16 8 1 (.object "PaidDebts$Book") true := ⟨RX8, TX8, 8, tyX8, rfl, by decide, wX8, (wA_t 277 (by decide +kernel) rfl), tyX8_ok, nmX8, rfl, by decide +kernel, fun _ => by decide +kernel⟩
theorem fo_X8_19 : FO RX8 19 8 2 := ⟨RX8, TX8, 8, rfl, by decide, wX8, (wA_t 278 (by decide +kernel) rfl)⟩
theorem fp_X8_19 : FP RX8 19 8 2 .boolean false := ⟨RX8, TX8, 8, tyX8, rfl, by decide, wX8, (wA_t 278 (by decide +kernel) rfl), tyX8_ok, nmX8, rfl, by decide +kernel, fun h => by cases h⟩
theorem no_X8_23 : NO RX8 23 1 [.null, .null, .int 0, .int 0, .null, .null, .null, .null, .null, .null, .null, .null, .null, .long 0] := ⟨RX1, TX1, 14, tyX1, rfl, wX1, tyX1_ok, (wA_t 140 (by decide +kernel) rfl), (wA_t 141 (by decide +kernel) rfl), (wA_t 6 (by decide +kernel) rfl), by decide +kernel, rfl⟩
theorem lk_X8_25 : LKN RX8 25 mX1_init 0 := ⟨okX1_init, ⟨RX8, by decide +kernel⟩, (wA_t 143 (by decide +kernel) rfl), rfl, rfl⟩
theorem fo_X8_26 : FO RX8 26 8 3 := ⟨RX8, TX8, 8, rfl, by decide, wX8, (wA_t 279 (by decide +kernel) rfl)⟩
theorem fp_X8_26 : FP RX8 26 8 3 (.object "PaidDebts$Course") true := ⟨RX8, TX8, 8, tyX8, rfl, by decide, wX8, (wA_t 279 (by decide +kernel) rfl), tyX8_ok, nmX8, rfl, by decide +kernel, fun _ => by decide +kernel⟩
theorem fo_X8_30 : FO RX8 30 8 4 := ⟨RX8, TX8, 8, rfl, by decide, wX8, (wA_t 280 (by decide +kernel) rfl)⟩
theorem fp_X8_30 : FP RX8 30 8 4 (.object "PaidDebts$Course") true := ⟨RX8, TX8, 8, tyX8, rfl, by decide, wX8, (wA_t 280 (by decide +kernel) rfl), tyX8_ok, nmX8, rfl, by decide +kernel, fun _ => by decide +kernel⟩
theorem no_X8_33 : NO RX8 33 7 [.null, .long 0, .int 0, .null, .null, .int 0, .int 0] := ⟨RX7, TX7, 7, tyX7, rfl, wX7, tyX7_ok, (wA_t 204 (by decide +kernel) rfl), (wA_t 205 (by decide +kernel) rfl), (wA_t 7 (by decide +kernel) rfl), by decide +kernel, rfl⟩
theorem lk_X8_35 : LKI RX8 35 mX7_init 0 := ⟨okX7_init, (wA_t 206 (by decide +kernel) rfl), (wA_t 207 (by decide +kernel) rfl), rfl, rfl⟩
theorem fo_X8_36 : FO RX8 36 8 5 := ⟨RX8, TX8, 8, rfl, by decide, wX8, (wA_t 281 (by decide +kernel) rfl)⟩
theorem fp_X8_36 : FP RX8 36 8 5 (.object "PaidDebts$WordSearch") true := ⟨RX8, TX8, 8, tyX8, rfl, by decide, wX8, (wA_t 281 (by decide +kernel) rfl), tyX8_ok, nmX8, rfl, by decide +kernel, fun _ => by decide +kernel⟩
theorem no_X8_40 : NO RX8 40 6 [.null, .int 0] := ⟨RX6, TX6, 2, tyX6, rfl, wX6, tyX6_ok, (wA_t 237 (by decide +kernel) rfl), (wA_t 238 (by decide +kernel) rfl), (wA_t 8 (by decide +kernel) rfl), by decide +kernel, rfl⟩
theorem lk_X8_42 : LKN RX8 42 mX6_init 0 := ⟨okX6_init, ⟨RX8, by decide +kernel⟩, (wA_t 240 (by decide +kernel) rfl), rfl, rfl⟩
theorem fo_X8_43 : FO RX8 43 8 6 := ⟨RX8, TX8, 8, rfl, by decide, wX8, (wA_t 282 (by decide +kernel) rfl)⟩
theorem fp_X8_43 : FP RX8 43 8 6 (.object "PaidDebts$Tape") true := ⟨RX8, TX8, 8, tyX8, rfl, by decide, wX8, (wA_t 282 (by decide +kernel) rfl), tyX8_ok, nmX8, rfl, by decide +kernel, fun _ => by decide +kernel⟩
theorem cl_X8_47 : Cond.classLink RX8 47 RX5 ∈ wA := (wA_t 253 (by decide +kernel) rfl)
theorem fo_X8_49 : FO RX8 49 8 7 := ⟨RX8, TX8, 8, rfl, by decide, wX8, (wA_t 283 (by decide +kernel) rfl)⟩
theorem fp_X8_49 : FP RX8 49 8 7 (.array (.object "PaidDebts$Sheet")) true := ⟨RX8, TX8, 8, tyX8, rfl, by decide, wX8, (wA_t 283 (by decide +kernel) rfl), tyX8_ok, nmX8, rfl, by decide +kernel, fun _ => by decide +kernel⟩
theorem no_X8_47 : NO RX8 47 5 [.int 0, .int 0, .null, .int 0] := ⟨RX5, TX5, 4, tyX5, rfl, wX5, tyX5_ok, (wA_t 253 (by decide +kernel) rfl), (wA_t 255 (by decide +kernel) rfl), (wA_t 9 (by decide +kernel) rfl), by decide +kernel, rfl⟩
theorem lk_X8_53 : LKN RX8 53 mX5_init 0 := ⟨okX5_init, ⟨RX8, by decide +kernel⟩, (wA_t 257 (by decide +kernel) rfl), rfl, rfl⟩
theorem lk_X8_54 : LKS RX8 54 mX8_within 3 := ⟨okX8_within, (wA_t 305 (by decide +kernel) rfl), (wA_t 306 (by decide +kernel) rfl)⟩
theorem lk_X8_58 : LKS RX8 58 mX8_isDay 1 := ⟨okX8_isDay, (wA_t 308 (by decide +kernel) rfl), (wA_t 309 (by decide +kernel) rfl)⟩
theorem fo_X8_62 : FO RX8 62 0 1 := ⟨RX0, TX0, 5, rfl, by decide, wX0, (wA_t 116 (by decide +kernel) rfl)⟩
theorem fo_X8_66 : FO RX8 66 0 0 := ⟨RX0, TX0, 5, rfl, by decide, wX0, (wA_t 113 (by decide +kernel) rfl)⟩
theorem lk_X8_70 : LKV RX8 70 mX2_begin 4 := ⟨okX2_begin, (wA_t 311 (by decide +kernel) rfl), (wA_t 312 (by decide +kernel) rfl), (wA_t 313 (by decide +kernel) rfl)⟩
theorem fp_X8_62 : FP RX8 62 0 1 .int false := ⟨RX0, TX0, 5, tyX0, rfl, by decide, wX0, (wA_t 116 (by decide +kernel) rfl), tyX0_ok, nmX0, rfl, by decide +kernel, fun h => by cases h⟩
theorem lk_X8_76 : LKV RX8 76 mX8_isDebt 1 := ⟨okX8_isDebt, (wA_t 319 (by decide +kernel) rfl), (wA_t 321 (by decide +kernel) rfl), (wA_s 0 (by decide +kernel) rfl)⟩
theorem fo_X8_86 : FO RX8 86 2 2 := ⟨RX2, TX2, 3, rfl, by decide, wX2, (wA_t 52 (by decide +kernel) rfl)⟩
theorem lk_X8_89 : LKS RX8 89 mX8_isPayable 2 := ⟨okX8_isPayable, (wA_t 331 (by decide +kernel) rfl), (wA_t 332 (by decide +kernel) rfl)⟩
theorem fo_X8_93 : FO RX8 93 0 3 := ⟨RX0, TX0, 5, rfl, by decide, wX0, (wA_t 124 (by decide +kernel) rfl)⟩
theorem lk_X8_96 : LKV RX8 96 mX0_addPayment 2 := ⟨okX0_addPayment, (wA_t 334 (by decide +kernel) rfl), (wA_t 335 (by decide +kernel) rfl), (wA_t 336 (by decide +kernel) rfl)⟩
theorem lk_X8_100 : LKS RX8 100 mX8_isSheet 1 := ⟨okX8_isSheet, (wA_t 342 (by decide +kernel) rfl), (wA_t 343 (by decide +kernel) rfl)⟩
theorem lk_X8_103 : LKS RX8 103 mX8_isLane 1 := ⟨okX8_isLane, (wA_t 345 (by decide +kernel) rfl), (wA_t 346 (by decide +kernel) rfl)⟩
theorem lk_X8_106 : LKV RX8 106 mX5_refusal 3 := ⟨okX5_refusal, (wA_t 348 (by decide +kernel) rfl), (wA_t 349 (by decide +kernel) rfl), (wA_t 350 (by decide +kernel) rfl)⟩
theorem fo_X8_110 : FO RX8 110 5 2 := ⟨RX5, TX5, 4, rfl, by decide, wX5, (wA_t 265 (by decide +kernel) rfl)⟩
theorem lk_X8_113 : LKV RX8 113 mX8_isPayment 1 := ⟨okX8_isPayment, (wA_t 356 (by decide +kernel) rfl), (wA_t 358 (by decide +kernel) rfl), (wA_s 1 (by decide +kernel) rfl)⟩
theorem lk_X8_116 : LKV RX8 116 mX8_isDebtOrNone 1 := ⟨okX8_isDebtOrNone, (wA_t 360 (by decide +kernel) rfl), (wA_t 362 (by decide +kernel) rfl), (wA_s 2 (by decide +kernel) rfl)⟩
theorem fo_X8_119 : FO RX8 119 0 2 := ⟨RX0, TX0, 5, rfl, by decide, wX0, (wA_t 121 (by decide +kernel) rfl)⟩
theorem fo_X8_123 : FO RX8 123 4 2 := ⟨RX4, TX4, 4, rfl, by decide, wX4, (wA_t 78 (by decide +kernel) rfl)⟩
theorem fo_X8_128 : FO RX8 128 4 3 := ⟨RX4, TX4, 4, rfl, by decide, wX4, (wA_t 82 (by decide +kernel) rfl)⟩
theorem fp_X8_123 : FP RX8 123 4 2 .int false := ⟨RX4, TX4, 4, tyX4, rfl, by decide, wX4, (wA_t 78 (by decide +kernel) rfl), tyX4_ok, nmX4, rfl, by decide +kernel, fun h => by cases h⟩
theorem fp_X8_128 : FP RX8 128 4 3 .int false := ⟨RX4, TX4, 4, tyX4, rfl, by decide, wX4, (wA_t 82 (by decide +kernel) rfl), tyX4_ok, nmX4, rfl, by decide +kernel, fun h => by cases h⟩
theorem fo_X8_131 : FO RX8 131 4 0 := ⟨RX4, TX4, 4, rfl, by decide, wX4, (wA_t 70 (by decide +kernel) rfl)⟩
theorem fp_X8_131 : FP RX8 131 4 0 .int false := ⟨RX4, TX4, 4, tyX4, rfl, by decide, wX4, (wA_t 70 (by decide +kernel) rfl), tyX4_ok, nmX4, rfl, by decide +kernel, fun h => by cases h⟩
theorem lk_X8_134 : LKV RX8 134 mX0_debtsWithAtLeast 2 := ⟨okX0_debtsWithAtLeast, (wA_t 372 (by decide +kernel) rfl), (wA_t 373 (by decide +kernel) rfl), (wA_t 374 (by decide +kernel) rfl)⟩
theorem lk_X8_138 : LKS RX8 138 mX8_allSigns 2 := ⟨okX8_allSigns, (wA_t 380 (by decide +kernel) rfl), (wA_t 381 (by decide +kernel) rfl)⟩
theorem fo_X8_142 : FO RX8 142 6 1 := ⟨RX6, TX6, 2, rfl, by decide, wX6, (wA_t 247 (by decide +kernel) rfl)⟩
theorem lk_X8_145 : LKS RX8 145 mX8_byteOf 2 := ⟨okX8_byteOf, (wA_t 383 (by decide +kernel) rfl), (wA_t 384 (by decide +kernel) rfl)⟩
theorem lk_X8_149 : LKV RX8 149 mX6_append 1 := ⟨okX6_append, (wA_t 386 (by decide +kernel) rfl), (wA_t 387 (by decide +kernel) rfl), (wA_t 388 (by decide +kernel) rfl)⟩
theorem lk_X8_153 : LKS RX8 153 mX8_isLaw 1 := ⟨okX8_isLaw, (wA_t 394 (by decide +kernel) rfl), (wA_t 395 (by decide +kernel) rfl)⟩
theorem lk_X8_156 : LKV RX8 156 mX6_fault 0 := ⟨okX6_fault, (wA_t 397 (by decide +kernel) rfl), (wA_t 398 (by decide +kernel) rfl), (wA_t 399 (by decide +kernel) rfl)⟩
theorem fo_X8_160 : FO RX8 160 0 4 := ⟨RX0, TX0, 5, rfl, by decide, wX0, (wA_t 128 (by decide +kernel) rfl)⟩
theorem lk_X8_164 : LKV RX8 164 mX3_read 1 := ⟨okX3_read, (wA_t 491 (by decide +kernel) rfl), (wA_t 492 (by decide +kernel) rfl), (wA_t 493 (by decide +kernel) rfl)⟩
theorem fp_X8_142 : FP RX8 142 6 1 .int false := ⟨RX6, TX6, 2, tyX6, rfl, by decide, wX6, (wA_t 247 (by decide +kernel) rfl), tyX6_ok, nmX6, rfl, by decide +kernel, fun h => by cases h⟩
theorem fo_X8_170 : FO RX8 170 3 1 := ⟨RX3, TX3, 3, rfl, by decide, wX3, (wA_t 102 (by decide +kernel) rfl)⟩
theorem fo_X8_171 : FO RX8 171 3 0 := ⟨RX3, TX3, 3, rfl, by decide, wX3, (wA_t 99 (by decide +kernel) rfl)⟩
theorem kl_X8_174 : Cond.constantLong RX8 174 (lI (-1)) ∈ wA := (wA_t 505 (by decide +kernel) rfl)
theorem lk_X8_176 : LKV RX8 176 mX8_goBehind 2 := ⟨okX8_goBehind, (wA_t 506 (by decide +kernel) rfl), (wA_t 508 (by decide +kernel) rfl), (wA_s 3 (by decide +kernel) rfl)⟩
theorem lk_X8_179 : LKV RX8 179 mX1_sumLeft 1 := ⟨okX1_sumLeft, (wA_t 612 (by decide +kernel) rfl), (wA_t 613 (by decide +kernel) rfl), (wA_t 614 (by decide +kernel) rfl)⟩
theorem lk_X8_183 : LKV RX8 183 mX1_runLeft 1 := ⟨okX1_runLeft, (wA_t 616 (by decide +kernel) rfl), (wA_t 617 (by decide +kernel) rfl), (wA_t 618 (by decide +kernel) rfl)⟩
theorem lk_X8_186 : LKV RX8 186 mX1_leftOf 1 := ⟨okX1_leftOf, (wA_t 620 (by decide +kernel) rfl), (wA_t 621 (by decide +kernel) rfl), (wA_t 622 (by decide +kernel) rfl)⟩
theorem lk_X8_189 : LKV RX8 189 mX1_owedNow 0 := ⟨okX1_owedNow, (wA_t 630 (by decide +kernel) rfl), (wA_t 631 (by decide +kernel) rfl), (wA_t 632 (by decide +kernel) rfl)⟩
theorem lk_X8_193 : LKV RX8 193 mX1_start 2 := ⟨okX1_start, (wA_t 510 (by decide +kernel) rfl), (wA_t 511 (by decide +kernel) rfl), (wA_t 512 (by decide +kernel) rfl)⟩
theorem lk_X8_197 : LKV RX8 197 mX1_takeUpTo 1 := ⟨okX1_takeUpTo, (wA_t 639 (by decide +kernel) rfl), (wA_t 640 (by decide +kernel) rfl), (wA_t 641 (by decide +kernel) rfl)⟩
theorem fo_X8_200 : FO RX8 200 1 13 := ⟨RX1, TX1, 14, rfl, by decide, wX1, (wA_t 172 (by decide +kernel) rfl)⟩
theorem fo_X8_204 : FO RX8 204 1 11 := ⟨RX1, TX1, 14, rfl, by decide, wX1, (wA_t 168 (by decide +kernel) rfl)⟩
theorem fo_X8_208 : FO RX8 208 1 12 := ⟨RX1, TX1, 14, rfl, by decide, wX1, (wA_t 170 (by decide +kernel) rfl)⟩
theorem fo_X8_211 : FO RX8 211 1 7 := ⟨RX1, TX1, 14, rfl, by decide, wX1, (wA_t 160 (by decide +kernel) rfl)⟩
theorem lk_X8_214 : LKS RX8 214 mX8_dayOrNone 1 := ⟨okX8_dayOrNone, (wA_t 647 (by decide +kernel) rfl), (wA_t 648 (by decide +kernel) rfl)⟩
theorem lk_X8_218 : LKV RX8 218 mX1_goAheadOf 1 := ⟨okX1_goAheadOf, (wA_t 654 (by decide +kernel) rfl), (wA_t 655 (by decide +kernel) rfl), (wA_t 656 (by decide +kernel) rfl)⟩
theorem lk_X8_221 : LKV RX8 221 mX1_findDead 0 := ⟨okX1_findDead, (wA_t 659 (by decide +kernel) rfl), (wA_t 577 (by decide +kernel) rfl), (wA_t 578 (by decide +kernel) rfl)⟩
theorem fo_X8_224 : FO RX8 224 1 9 := ⟨RX1, TX1, 14, rfl, by decide, wX1, (wA_t 164 (by decide +kernel) rfl)⟩
theorem fo_X8_228 : FO RX8 228 1 8 := ⟨RX1, TX1, 14, rfl, by decide, wX1, (wA_t 162 (by decide +kernel) rfl)⟩
theorem lmx_X8_231 : Cond.methodLink RX8 231 Lib.Math.max.name ∈ wA := (wA_t 668 (by decide +kernel) rfl)
theorem lk_X8_236 : LKV RX8 236 mX1_orderOpen 0 := ⟨okX1_orderOpen, (wA_t 673 (by decide +kernel) rfl), (wA_t 588 (by decide +kernel) rfl), (wA_t 589 (by decide +kernel) rfl)⟩
theorem fo_X8_239 : FO RX8 239 1 10 := ⟨RX1, TX1, 14, rfl, by decide, wX1, (wA_t 166 (by decide +kernel) rfl)⟩
theorem lk_X8_242 : LKV RX8 242 mX7_find 4 := ⟨okX7_find, (wA_t 678 (by decide +kernel) rfl), (wA_t 679 (by decide +kernel) rfl), (wA_t 680 (by decide +kernel) rfl)⟩
theorem fo_X8_246 : FO RX8 246 7 0 := ⟨RX7, TX7, 7, rfl, by decide, wX7, (wA_t 214 (by decide +kernel) rfl)⟩
theorem kl_X8_249 : Cond.constantLong RX8 249 (lI (-2)) ∈ wA := (wA_t 716 (by decide +kernel) rfl)
theorem fo_X8_251 : FO RX8 251 7 1 := ⟨RX7, TX7, 7, rfl, by decide, wX7, (wA_t 216 (by decide +kernel) rfl)⟩
theorem fo_X8_254 : FO RX8 254 1 0 := ⟨RX1, TX1, 14, rfl, by decide, wX1, (wA_t 152 (by decide +kernel) rfl)⟩
theorem lk_X8_255 : LKV RX8 255 mX1_goBehind 1 := ⟨okX1_goBehind, (wA_t 536 (by decide +kernel) rfl), (wA_t 537 (by decide +kernel) rfl), (wA_t 538 (by decide +kernel) rfl)⟩
theorem lmn_X8_257 : Cond.methodLink RX8 257 Lib.Math.min.name ∈ wA := (wA_t 725 (by decide +kernel) rfl)
theorem lln_X8_260 : Cond.methodLink RX8 260 Lib.MathLoose.min_long.x ∈ wA := (wA_t 726 (by decide +kernel) rfl)
theorem llx_X8_263 : Cond.methodLink RX8 263 Lib.MathLoose.max_long.x ∈ wA := (wA_t 727 (by decide +kernel) rfl)
theorem kl_X8_265 : Cond.constantLong RX8 265 (lI (10000)) ∈ wA := (wA_t 734 (by decide +kernel) rfl)
theorem lk_X8_267 : LKV RX8 267 mX1_distribute 2 := ⟨okX1_distribute, (wA_t 735 (by decide +kernel) rfl), (wA_t 570 (by decide +kernel) rfl), (wA_t 571 (by decide +kernel) rfl)⟩
theorem kl_X8_271 : Cond.constantLong RX8 271 (lI (-4)) ∈ wA := (wA_t 736 (by decide +kernel) rfl)
theorem lk_X8_273 : LKV RX8 273 mX1_isLeftAlike 1 := ⟨okX1_isLeftAlike, (wA_t 741 (by decide +kernel) rfl), (wA_t 742 (by decide +kernel) rfl), (wA_t 743 (by decide +kernel) rfl)⟩
theorem kl_X8_277 : Cond.constantLong RX8 277 (lI (-1000000000001)) ∈ wA := (wA_t 749 (by decide +kernel) rfl)
theorem lk_X8_279 : LKV RX8 279 mX0_copyFrom 1 := ⟨okX0_copyFrom, (wA_t 758 (by decide +kernel) rfl), (wA_t 515 (by decide +kernel) rfl), (wA_t 516 (by decide +kernel) rfl)⟩
theorem lk_X8_283 : LKV RX8 283 mX5_begin 2 := ⟨okX5_begin, (wA_t 767 (by decide +kernel) rfl), (wA_t 768 (by decide +kernel) rfl), (wA_t 769 (by decide +kernel) rfl)⟩
theorem fo_X8_285 : FO RX8 285 5 0 := ⟨RX5, TX5, 4, rfl, by decide, wX5, (wA_t 261 (by decide +kernel) rfl)⟩
theorem fp_X8_285 : FP RX8 285 5 0 .boolean false := ⟨RX5, TX5, 4, tyX5, rfl, by decide, wX5, (wA_t 261 (by decide +kernel) rfl), tyX5_ok, nmX5, rfl, by decide +kernel, fun h => by cases h⟩
theorem fo_X8_288 : FO RX8 288 5 1 := ⟨RX5, TX5, 4, rfl, by decide, wX5, (wA_t 263 (by decide +kernel) rfl)⟩
theorem lk_X8_289 : LKV RX8 289 mX5_write 2 := ⟨okX5_write, (wA_t 780 (by decide +kernel) rfl), (wA_t 781 (by decide +kernel) rfl), (wA_t 782 (by decide +kernel) rfl)⟩
theorem lo_X9_1 : Cond.methodLink RX9 1 Lib.objectInit ∈ wA := (wA_t 789 (by decide +kernel) rfl)
theorem fo_X9_7 : FO RX9 7 9 1 := ⟨RX9, TX9, 29, rfl, by decide, wX9, (wA_t 791 (by decide +kernel) rfl)⟩
theorem fp_X9_7 : FP RX9 7 9 1 (.array .int) true := ⟨RX9, TX9, 29, tyX9, rfl, by decide, wX9, (wA_t 791 (by decide +kernel) rfl), tyX9_ok, nmX9, rfl, by decide +kernel, fun _ => by decide +kernel⟩
theorem fo_X9_13 : FO RX9 13 9 3 := ⟨RX9, TX9, 29, rfl, by decide, wX9, (wA_t 793 (by decide +kernel) rfl)⟩
theorem fp_X9_13 : FP RX9 13 9 3 (.array .int) true := ⟨RX9, TX9, 29, tyX9, rfl, by decide, wX9, (wA_t 793 (by decide +kernel) rfl), tyX9_ok, nmX9, rfl, by decide +kernel, fun _ => by decide +kernel⟩
theorem fo_X9_16 : FO RX9 16 9 4 := ⟨RX9, TX9, 29, rfl, by decide, wX9, (wA_t 794 (by decide +kernel) rfl)⟩
theorem fp_X9_16 : FP RX9 16 9 4 (.array .int) true := ⟨RX9, TX9, 29, tyX9, rfl, by decide, wX9, (wA_t 794 (by decide +kernel) rfl), tyX9_ok, nmX9, rfl, by decide +kernel, fun _ => by decide +kernel⟩
theorem fo_X9_19 : FO RX9 19 9 6 := ⟨RX9, TX9, 29, rfl, by decide, wX9, (wA_t 796 (by decide +kernel) rfl)⟩
theorem fp_X9_19 : FP RX9 19 9 6 (.array .int) true := ⟨RX9, TX9, 29, tyX9, rfl, by decide, wX9, (wA_t 796 (by decide +kernel) rfl), tyX9_ok, nmX9, rfl, by decide +kernel, fun _ => by decide +kernel⟩
theorem fo_X9_22 : FO RX9 22 9 7 := ⟨RX9, TX9, 29, rfl, by decide, wX9, (wA_t 797 (by decide +kernel) rfl)⟩
theorem fp_X9_22 : FP RX9 22 9 7 (.array .int) true := ⟨RX9, TX9, 29, tyX9, rfl, by decide, wX9, (wA_t 797 (by decide +kernel) rfl), tyX9_ok, nmX9, rfl, by decide +kernel, fun _ => by decide +kernel⟩
theorem fo_X9_25 : FO RX9 25 9 8 := ⟨RX9, TX9, 29, rfl, by decide, wX9, (wA_t 798 (by decide +kernel) rfl)⟩
theorem fp_X9_25 : FP RX9 25 9 8 (.array .int) true := ⟨RX9, TX9, 29, tyX9, rfl, by decide, wX9, (wA_t 798 (by decide +kernel) rfl), tyX9_ok, nmX9, rfl, by decide +kernel, fun _ => by decide +kernel⟩
theorem fo_X9_28 : FO RX9 28 9 9 := ⟨RX9, TX9, 29, rfl, by decide, wX9, (wA_t 799 (by decide +kernel) rfl)⟩
theorem fp_X9_28 : FP RX9 28 9 9 (.array .long) true := ⟨RX9, TX9, 29, tyX9, rfl, by decide, wX9, (wA_t 799 (by decide +kernel) rfl), tyX9_ok, nmX9, rfl, by decide +kernel, fun _ => by decide +kernel⟩
theorem fo_X9_32 : FO RX9 32 9 10 := ⟨RX9, TX9, 29, rfl, by decide, wX9, (wA_t 800 (by decide +kernel) rfl)⟩
theorem fp_X9_32 : FP RX9 32 9 10 (.array .long) true := ⟨RX9, TX9, 29, tyX9, rfl, by decide, wX9, (wA_t 800 (by decide +kernel) rfl), tyX9_ok, nmX9, rfl, by decide +kernel, fun _ => by decide +kernel⟩
theorem fo_X9_35 : FO RX9 35 9 11 := ⟨RX9, TX9, 29, rfl, by decide, wX9, (wA_t 801 (by decide +kernel) rfl)⟩
theorem fp_X9_35 : FP RX9 35 9 11 (.array .int) true := ⟨RX9, TX9, 29, tyX9, rfl, by decide, wX9, (wA_t 801 (by decide +kernel) rfl), tyX9_ok, nmX9, rfl, by decide +kernel, fun _ => by decide +kernel⟩
theorem fo_X9_38 : FO RX9 38 9 12 := ⟨RX9, TX9, 29, rfl, by decide, wX9, (wA_t 802 (by decide +kernel) rfl)⟩
theorem fp_X9_38 : FP RX9 38 9 12 (.array .int) true := ⟨RX9, TX9, 29, tyX9, rfl, by decide, wX9, (wA_t 802 (by decide +kernel) rfl), tyX9_ok, nmX9, rfl, by decide +kernel, fun _ => by decide +kernel⟩
theorem fo_X9_41 : FO RX9 41 9 13 := ⟨RX9, TX9, 29, rfl, by decide, wX9, (wA_t 803 (by decide +kernel) rfl)⟩
theorem fp_X9_41 : FP RX9 41 9 13 (.array .long) true := ⟨RX9, TX9, 29, tyX9, rfl, by decide, wX9, (wA_t 803 (by decide +kernel) rfl), tyX9_ok, nmX9, rfl, by decide +kernel, fun _ => by decide +kernel⟩
theorem fo_X9_44 : FO RX9 44 9 14 := ⟨RX9, TX9, 29, rfl, by decide, wX9, (wA_t 804 (by decide +kernel) rfl)⟩
theorem fp_X9_44 : FP RX9 44 9 14 (.array .long) true := ⟨RX9, TX9, 29, tyX9, rfl, by decide, wX9, (wA_t 804 (by decide +kernel) rfl), tyX9_ok, nmX9, rfl, by decide +kernel, fun _ => by decide +kernel⟩
theorem fo_X9_47 : FO RX9 47 9 16 := ⟨RX9, TX9, 29, rfl, by decide, wX9, (wA_t 806 (by decide +kernel) rfl)⟩
theorem fp_X9_47 : FP RX9 47 9 16 (.array .boolean) true := ⟨RX9, TX9, 29, tyX9, rfl, by decide, wX9, (wA_t 806 (by decide +kernel) rfl), tyX9_ok, nmX9, rfl, by decide +kernel, fun _ => by decide +kernel⟩
theorem fo_X9_51 : FO RX9 51 9 17 := ⟨RX9, TX9, 29, rfl, by decide, wX9, (wA_t 807 (by decide +kernel) rfl)⟩
theorem fp_X9_51 : FP RX9 51 9 17 (.array .int) true := ⟨RX9, TX9, 29, tyX9, rfl, by decide, wX9, (wA_t 807 (by decide +kernel) rfl), tyX9_ok, nmX9, rfl, by decide +kernel, fun _ => by decide +kernel⟩
theorem fo_X9_54 : FO RX9 54 9 18 := ⟨RX9, TX9, 29, rfl, by decide, wX9, (wA_t 808 (by decide +kernel) rfl)⟩
theorem fp_X9_54 : FP RX9 54 9 18 (.array .long) true := ⟨RX9, TX9, 29, tyX9, rfl, by decide, wX9, (wA_t 808 (by decide +kernel) rfl), tyX9_ok, nmX9, rfl, by decide +kernel, fun _ => by decide +kernel⟩
theorem fo_X9_57 : FO RX9 57 9 19 := ⟨RX9, TX9, 29, rfl, by decide, wX9, (wA_t 809 (by decide +kernel) rfl)⟩
theorem fp_X9_57 : FP RX9 57 9 19 (.array .int) true := ⟨RX9, TX9, 29, tyX9, rfl, by decide, wX9, (wA_t 809 (by decide +kernel) rfl), tyX9_ok, nmX9, rfl, by decide +kernel, fun _ => by decide +kernel⟩
theorem fo_X9_60 : FO RX9 60 9 20 := ⟨RX9, TX9, 29, rfl, by decide, wX9, (wA_t 810 (by decide +kernel) rfl)⟩
theorem fp_X9_60 : FP RX9 60 9 20 (.array .int) true := ⟨RX9, TX9, 29, tyX9, rfl, by decide, wX9, (wA_t 810 (by decide +kernel) rfl), tyX9_ok, nmX9, rfl, by decide +kernel, fun _ => by decide +kernel⟩
theorem fo_X9_63 : FO RX9 63 9 22 := ⟨RX9, TX9, 29, rfl, by decide, wX9, (wA_t 812 (by decide +kernel) rfl)⟩
theorem fp_X9_63 : FP RX9 63 9 22 (.array .int) true := ⟨RX9, TX9, 29, tyX9, rfl, by decide, wX9, (wA_t 812 (by decide +kernel) rfl), tyX9_ok, nmX9, rfl, by decide +kernel, fun _ => by decide +kernel⟩
theorem fo_X9_66 : FO RX9 66 9 23 := ⟨RX9, TX9, 29, rfl, by decide, wX9, (wA_t 813 (by decide +kernel) rfl)⟩
theorem fp_X9_66 : FP RX9 66 9 23 (.array .long) true := ⟨RX9, TX9, 29, tyX9, rfl, by decide, wX9, (wA_t 813 (by decide +kernel) rfl), tyX9_ok, nmX9, rfl, by decide +kernel, fun _ => by decide +kernel⟩
theorem fo_X9_69 : FO RX9 69 9 25 := ⟨RX9, TX9, 29, rfl, by decide, wX9, (wA_t 815 (by decide +kernel) rfl)⟩
theorem fp_X9_69 : FP RX9 69 9 25 (.array .int) true := ⟨RX9, TX9, 29, tyX9, rfl, by decide, wX9, (wA_t 815 (by decide +kernel) rfl), tyX9_ok, nmX9, rfl, by decide +kernel, fun _ => by decide +kernel⟩
theorem fo_X9_72 : FO RX9 72 9 26 := ⟨RX9, TX9, 29, rfl, by decide, wX9, (wA_t 816 (by decide +kernel) rfl)⟩
theorem fp_X9_72 : FP RX9 72 9 26 (.array .int) true := ⟨RX9, TX9, 29, tyX9, rfl, by decide, wX9, (wA_t 816 (by decide +kernel) rfl), tyX9_ok, nmX9, rfl, by decide +kernel, fun _ => by decide +kernel⟩
theorem fo_X9_75 : FO RX9 75 9 27 := ⟨RX9, TX9, 29, rfl, by decide, wX9, (wA_t 817 (by decide +kernel) rfl)⟩
theorem fp_X9_75 : FP RX9 75 9 27 (.array .int) true := ⟨RX9, TX9, 29, tyX9, rfl, by decide, wX9, (wA_t 817 (by decide +kernel) rfl), tyX9_ok, nmX9, rfl, by decide +kernel, fun _ => by decide +kernel⟩
theorem fo_X9_78 : FO RX9 78 9 28 := ⟨RX9, TX9, 29, rfl, by decide, wX9, (wA_t 818 (by decide +kernel) rfl)⟩
theorem fp_X9_78 : FP RX9 78 9 28 (.array .int) true := ⟨RX9, TX9, 29, tyX9, rfl, by decide, wX9, (wA_t 818 (by decide +kernel) rfl), tyX9_ok, nmX9, rfl, by decide +kernel, fun _ => by decide +kernel⟩
theorem kl_X9_81 : Cond.constantLong RX9 81 (lI (299)) ∈ wA := (wA_t 889 (by decide +kernel) rfl)
theorem lk_X9_83 : LKS RX9 83 mX9_in 3 := ⟨okX9_in, (wA_t 883 (by decide +kernel) rfl), (wA_t 884 (by decide +kernel) rfl)⟩
theorem fo_X9_87 : FO RX9 87 9 0 := ⟨RX9, TX9, 29, rfl, by decide, wX9, (wA_t 790 (by decide +kernel) rfl)⟩
theorem fo_X9_91 : FO RX9 91 9 2 := ⟨RX9, TX9, 29, rfl, by decide, wX9, (wA_t 792 (by decide +kernel) rfl)⟩
theorem kl_X9_94 : Cond.constantLong RX9 94 (lI (9999)) ∈ wA := (wA_t 882 (by decide +kernel) rfl)
theorem lk_X9_96 : LKS RX9 96 mX9_isDay 1 := ⟨okX9_isDay, (wA_t 886 (by decide +kernel) rfl), (wA_t 887 (by decide +kernel) rfl)⟩
theorem kl_X9_100 : Cond.constantLong RX9 100 (lI (99)) ∈ wA := (wA_t 890 (by decide +kernel) rfl)
theorem fp_X9_87 : FP RX9 87 9 0 .int false := ⟨RX9, TX9, 29, tyX9, rfl, by decide, wX9, (wA_t 790 (by decide +kernel) rfl), tyX9_ok, nmX9, rfl, by decide +kernel, fun h => by cases h⟩
theorem lk_X9_102 : LKV RX9 102 mX9_isDebt 1 := ⟨okX9_isDebt, (wA_t 895 (by decide +kernel) rfl), (wA_t 897 (by decide +kernel) rfl), (wA_s 12 (by decide +kernel) rfl)⟩
theorem kl_X9_105 : Cond.constantLong RX9 105 (lI (5)) ∈ wA := (wA_t 899 (by decide +kernel) rfl)
theorem kl_X9_107 : Cond.constantLong RX9 107 (lI (-1)) ∈ wA := (wA_t 900 (by decide +kernel) rfl)
theorem fp_X9_91 : FP RX9 91 9 2 .int false := ⟨RX9, TX9, 29, tyX9, rfl, by decide, wX9, (wA_t 792 (by decide +kernel) rfl), tyX9_ok, nmX9, rfl, by decide +kernel, fun h => by cases h⟩
theorem lk_X9_109 : LKV RX9 109 mX9_addPayment 2 := ⟨okX9_addPayment, (wA_t 905 (by decide +kernel) rfl), (wA_t 907 (by decide +kernel) rfl), (wA_s 13 (by decide +kernel) rfl)⟩
theorem lk_X9_113 : LKV RX9 113 mX9_isPayment 1 := ⟨okX9_isPayment, (wA_t 913 (by decide +kernel) rfl), (wA_t 915 (by decide +kernel) rfl), (wA_s 14 (by decide +kernel) rfl)⟩
theorem kl_X9_116 : Cond.constantLong RX9 116 (lI (3)) ∈ wA := (wA_t 925 (by decide +kernel) rfl)
theorem kl_X9_118 : Cond.constantLong RX9 118 (lI (8)) ∈ wA := (wA_t 930 (by decide +kernel) rfl)
theorem kl_X9_120 : Cond.constantLong RX9 120 (lI (255)) ∈ wA := (wA_t 931 (by decide +kernel) rfl)
theorem kl_X9_122 : Cond.constantLong RX9 122 (lI (32)) ∈ wA := (wA_t 932 (by decide +kernel) rfl)
theorem kl_X9_124 : Cond.constantLong RX9 124 (lI (126)) ∈ wA := (wA_t 933 (by decide +kernel) rfl)
theorem fo_X9_126 : FO RX9 126 9 5 := ⟨RX9, TX9, 29, rfl, by decide, wX9, (wA_t 795 (by decide +kernel) rfl)⟩
theorem fp_X9_126 : FP RX9 126 9 5 .int false := ⟨RX9, TX9, 29, tyX9, rfl, by decide, wX9, (wA_t 795 (by decide +kernel) rfl), tyX9_ok, nmX9, rfl, by decide +kernel, fun h => by cases h⟩
theorem lk_X9_129 : LKS RX9 129 mX9_isLaw 1 := ⟨okX9_isLaw, (wA_t 938 (by decide +kernel) rfl), (wA_t 939 (by decide +kernel) rfl)⟩
theorem lk_X9_132 : LKS RX9 132 mX9_isLetter 1 := ⟨okX9_isLetter, (wA_t 941 (by decide +kernel) rfl), (wA_t 942 (by decide +kernel) rfl)⟩
theorem kl_X9_135 : Cond.constantLong RX9 135 (lI (10000)) ∈ wA := (wA_t 969 (by decide +kernel) rfl)
theorem lk_X9_137 : LKV RX9 137 mX9_leftOf 1 := ⟨okX9_leftOf, (wA_t 982 (by decide +kernel) rfl), (wA_t 984 (by decide +kernel) rfl), (wA_s 22 (by decide +kernel) rfl)⟩
theorem lk_X9_141 : LKV RX9 141 mX9_has 2 := ⟨okX9_has, (wA_t 986 (by decide +kernel) rfl), (wA_t 988 (by decide +kernel) rfl), (wA_s 23 (by decide +kernel) rfl)⟩
theorem lk_X9_145 : LKV RX9 145 mX9_compare 4 := ⟨okX9_compare, (wA_t 998 (by decide +kernel) rfl), (wA_t 1000 (by decide +kernel) rfl), (wA_s 26 (by decide +kernel) rfl)⟩
theorem fo_X9_149 : FO RX9 149 9 15 := ⟨RX9, TX9, 29, rfl, by decide, wX9, (wA_t 805 (by decide +kernel) rfl)⟩
theorem fp_X9_149 : FP RX9 149 9 15 .long false := ⟨RX9, TX9, 29, tyX9, rfl, by decide, wX9, (wA_t 805 (by decide +kernel) rfl), tyX9_ok, nmX9, rfl, by decide +kernel, fun h => by cases h⟩
theorem lk_X9_153 : LKV RX9 153 mX9_putTo 4 := ⟨okX9_putTo, (wA_t 990 (by decide +kernel) rfl), (wA_t 992 (by decide +kernel) rfl), (wA_s 24 (by decide +kernel) rfl)⟩
theorem lk_X9_157 : LKV RX9 157 mX9_isDead 2 := ⟨okX9_isDead, (wA_t 978 (by decide +kernel) rfl), (wA_t 980 (by decide +kernel) rfl), (wA_s 21 (by decide +kernel) rfl)⟩
theorem lk_X9_160 : LKV RX9 160 mX9_findOrder 2 := ⟨okX9_findOrder, (wA_t 994 (by decide +kernel) rfl), (wA_t 996 (by decide +kernel) rfl), (wA_s 25 (by decide +kernel) rfl)⟩
theorem lk_X9_164 : LKV RX9 164 mX9_putParts 4 := ⟨okX9_putParts, (wA_t 1002 (by decide +kernel) rfl), (wA_t 1004 (by decide +kernel) rfl), (wA_s 27 (by decide +kernel) rfl)⟩
theorem lk_X9_168 : LKV RX9 168 mX9_putAll 5 := ⟨okX9_putAll, (wA_t 974 (by decide +kernel) rfl), (wA_t 976 (by decide +kernel) rfl), (wA_s 20 (by decide +kernel) rfl)⟩
theorem lk_X9_172 : LKV RX9 172 mX9_runOn 1 := ⟨okX9_runOn, (wA_t 965 (by decide +kernel) rfl), (wA_t 967 (by decide +kernel) rfl), (wA_s 18 (by decide +kernel) rfl)⟩
theorem lk_X9_176 : LKV RX9 176 mX9_putPayment 3 := ⟨okX9_putPayment, (wA_t 970 (by decide +kernel) rfl), (wA_t 972 (by decide +kernel) rfl), (wA_s 19 (by decide +kernel) rfl)⟩
theorem lk_X9_180 : LKV RX9 180 mX9_beginDays 0 := ⟨okX9_beginDays, (wA_t 957 (by decide +kernel) rfl), (wA_t 959 (by decide +kernel) rfl), (wA_s 16 (by decide +kernel) rfl)⟩
theorem lk_X9_183 : LKV RX9 183 mX9_goDay 2 := ⟨okX9_goDay, (wA_t 961 (by decide +kernel) rfl), (wA_t 963 (by decide +kernel) rfl), (wA_s 17 (by decide +kernel) rfl)⟩
theorem lk_X9_186 : LKV RX9 186 mX9_goTo 2 := ⟨okX9_goTo, (wA_t 953 (by decide +kernel) rfl), (wA_t 955 (by decide +kernel) rfl), (wA_s 15 (by decide +kernel) rfl)⟩
theorem lk_X9_189 : LKV RX9 189 mX9_owedNow 0 := ⟨okX9_owedNow, (wA_t 1014 (by decide +kernel) rfl), (wA_t 1016 (by decide +kernel) rfl), (wA_s 29 (by decide +kernel) rfl)⟩
theorem kl_X9_193 : Cond.constantLong RX9 193 (lI (2)) ∈ wA := (wA_t 952 (by decide +kernel) rfl)
theorem lk_X9_195 : LKV RX9 195 mX9_owedOn 2 := ⟨okX9_owedOn, (wA_t 1010 (by decide +kernel) rfl), (wA_t 1012 (by decide +kernel) rfl), (wA_s 28 (by decide +kernel) rfl)⟩
theorem fo_X9_199 : FO RX9 199 9 21 := ⟨RX9, TX9, 29, rfl, by decide, wX9, (wA_t 811 (by decide +kernel) rfl)⟩
theorem fp_X9_199 : FP RX9 199 9 21 .long false := ⟨RX9, TX9, 29, tyX9, rfl, by decide, wX9, (wA_t 811 (by decide +kernel) rfl), tyX9_ok, nmX9, rfl, by decide +kernel, fun h => by cases h⟩
theorem lk_X9_202 : LKV RX9 202 mX9_findWords 3 := ⟨okX9_findWords, (wA_t 1046 (by decide +kernel) rfl), (wA_t 1048 (by decide +kernel) rfl), (wA_s 30 (by decide +kernel) rfl)⟩
theorem kl_X9_205 : Cond.constantLong RX9 205 (lI (-2)) ∈ wA := (wA_t 1054 (by decide +kernel) rfl)
theorem kl_X9_207 : Cond.constantLong RX9 207 (lI (60)) ∈ wA := (wA_t 1067 (by decide +kernel) rfl)
theorem kl_X9_209 : Cond.constantLong RX9 209 (lI (-4)) ∈ wA := (wA_t 1068 (by decide +kernel) rfl)
theorem kl_X9_211 : Cond.constantLong RX9 211 (lI (-1000000000001)) ∈ wA := (wA_t 1077 (by decide +kernel) rfl)
theorem lk_X9_213 : LKV RX9 213 mX9_carry 1 := ⟨okX9_carry, (wA_t 1082 (by decide +kernel) rfl), (wA_t 1084 (by decide +kernel) rfl), (wA_s 31 (by decide +kernel) rfl)⟩
theorem fo_X9_217 : FO RX9 217 9 24 := ⟨RX9, TX9, 29, rfl, by decide, wX9, (wA_t 814 (by decide +kernel) rfl)⟩
theorem fp_X9_217 : FP RX9 217 9 24 .boolean false := ⟨RX9, TX9, 29, tyX9, rfl, by decide, wX9, (wA_t 814 (by decide +kernel) rfl), tyX9_ok, nmX9, rfl, by decide +kernel, fun h => by cases h⟩
theorem lk_X9_221 : LKS RX9 221 mX9_isSheet 2 := ⟨okX9_isSheet, (wA_t 1094 (by decide +kernel) rfl), (wA_t 1095 (by decide +kernel) rfl)⟩
theorem lk_X9_224 : LKV RX9 224 mX9_lacksRow 4 := ⟨okX9_lacksRow, (wA_t 1105 (by decide +kernel) rfl), (wA_t 1107 (by decide +kernel) rfl), (wA_s 32 (by decide +kernel) rfl)⟩
theorem kl_X9_227 : Cond.constantLong RX9 227 (lI (12)) ∈ wA := (wA_t 1113 (by decide +kernel) rfl)
theorem lk_J0_335 : LKV RJ0 335 mJ0_coder_7d493 0 := ⟨okJ0_coder_7d493, (wA_t 420 (by decide +kernel) rfl), (wA_t 421 (by decide +kernel) rfl), (wA_t 422 (by decide +kernel) rfl)⟩
theorem lk_J0_633 : LKV RJ0 633 mJ0_indexOf_7cf53 2 := ⟨okJ0_indexOf_7cf53, (wA_t 406 (by decide +kernel) rfl), (wA_t 407 (by decide +kernel) rfl), (wA_t 408 (by decide +kernel) rfl)⟩
theorem lk_J0_492 : LKV RJ0 492 mJ0_isLatin1_aae02 0 := ⟨okJ0_isLatin1_aae02, (wA_t 410 (by decide +kernel) rfl), (wA_t 411 (by decide +kernel) rfl), (wA_t 412 (by decide +kernel) rfl)⟩
theorem lk_J0_505 : LKV RJ0 505 mJ0_length_8abf5 0 := ⟨okJ0_length_8abf5, (wA_t 416 (by decide +kernel) rfl), (wA_t 417 (by decide +kernel) rfl), (wA_t 418 (by decide +kernel) rfl)⟩
theorem lk_J0_637 : LKS RJ0 637 mJ1_indexOf_4cfef 4 := ⟨okJ1_indexOf_4cfef, (wA_t 424 (by decide +kernel) rfl), (wA_t 425 (by decide +kernel) rfl)⟩
theorem lk_J0_640 : LKS RJ0 640 mJ2_indexOf_4cfef 4 := ⟨okJ2_indexOf_4cfef, (wA_t 439 (by decide +kernel) rfl), (wA_t 440 (by decide +kernel) rfl)⟩
theorem lk_J0_1062 : LKS RJ0 1062 mJ3_checkFromToIndex_8c36e 4 := ⟨okJ3_checkFromToIndex_8c36e, (wA_t 459 (by decide +kernel) rfl), (wA_t 460 (by decide +kernel) rfl)⟩
theorem lk_J1_88 : LKS RJ1 88 mJ1_canEncode_9a6ad 1 := ⟨okJ1_canEncode_9a6ad, (wA_t 427 (by decide +kernel) rfl), (wA_t 428 (by decide +kernel) rfl)⟩
theorem lmx_J1_92 : Cond.methodLink RJ1 92 Lib.Math.max.name ∈ wA := (wA_t 430 (by decide +kernel) rfl)
theorem lmn_J1_38 : Cond.methodLink RJ1 38 Lib.Math.min.name ∈ wA := (wA_t 433 (by decide +kernel) rfl)
theorem lk_J1_95 : LKS RJ1 95 mJ1_indexOfChar_4cfef 4 := ⟨okJ1_indexOfChar_4cfef, (wA_t 436 (by decide +kernel) rfl), (wA_t 437 (by decide +kernel) rfl)⟩
theorem lk_J2_48 : LKS RJ2 48 mJ2_length_9d52b 1 := ⟨okJ2_length_9d52b, (wA_t 451 (by decide +kernel) rfl), (wA_t 452 (by decide +kernel) rfl)⟩
theorem lmx_J2_224 : Cond.methodLink RJ2 224 Lib.Math.max.name ∈ wA := (wA_t 442 (by decide +kernel) rfl)
theorem lmn_J2_183 : Cond.methodLink RJ2 183 Lib.Math.min.name ∈ wA := (wA_t 443 (by decide +kernel) rfl)
theorem lk_J2_228 : LKS RJ2 228 mJ2_indexOfChar_4cfef 4 := ⟨okJ2_indexOfChar_4cfef, (wA_t 445 (by decide +kernel) rfl), (wA_t 446 (by decide +kernel) rfl)⟩
theorem lk_J2_232 : LKS RJ2 232 mJ2_indexOfSupplementary_4cfef 4 := ⟨okJ2_indexOfSupplementary_4cfef, (wA_t 474 (by decide +kernel) rfl), (wA_t 475 (by decide +kernel) rfl)⟩
theorem lk_J2_96 : LKS RJ2 96 mJ2_checkBoundsBeginEnd_d044e 3 := ⟨okJ2_checkBoundsBeginEnd_d044e, (wA_t 448 (by decide +kernel) rfl), (wA_t 449 (by decide +kernel) rfl)⟩
theorem lk_J2_244 : LKS RJ2 244 mJ2_indexOfCharUnsafe_4cfef 4 := ⟨okJ2_indexOfCharUnsafe_4cfef, (wA_t 462 (by decide +kernel) rfl), (wA_t 463 (by decide +kernel) rfl)⟩
theorem lk_J2_71 : LKS RJ2 71 mJ2_getChar_3b067 2 := ⟨okJ2_getChar_3b067, (wA_t 465 (by decide +kernel) rfl), (wA_t 466 (by decide +kernel) rfl)⟩
theorem lk_J2_164 : LKS RJ2 164 mJ11_isValidCodePoint_9a6ad 1 := ⟨okJ11_isValidCodePoint_9a6ad, (wA_t 477 (by decide +kernel) rfl), (wA_t 478 (by decide +kernel) rfl)⟩
theorem lk_J2_157 : LKS RJ2 157 mJ11_highSurrogate_5068e 1 := ⟨okJ11_highSurrogate_5068e, (wA_t 480 (by decide +kernel) rfl), (wA_t 481 (by decide +kernel) rfl)⟩
theorem lk_J2_161 : LKS RJ2 161 mJ11_lowSurrogate_5068e 1 := ⟨okJ11_lowSurrogate_5068e, (wA_t 484 (by decide +kernel) rfl), (wA_t 485 (by decide +kernel) rfl)⟩
theorem lk_J2_241 : LKS RJ2 241 mJ0_checkBoundsBeginEnd_23922 3 := ⟨okJ0_checkBoundsBeginEnd_23922, (wA_t 454 (by decide +kernel) rfl), (wA_t 455 (by decide +kernel) rfl)⟩
theorem no_L_7 : NO RL 7 8 [.null, .null, .int 0, .null, .null, .null, .null, .null] := ⟨RX8, TX8, 8, tyX8, rfl, wX8, tyX8_ok, (wA_t 21 (by decide +kernel) rfl), (wA_t 22 (by decide +kernel) rfl), (wA_t 1 (by decide +kernel) rfl), by decide +kernel, rfl⟩
theorem lk_L_9 : LKI RL 9 mX8_init 0 := ⟨okX8_init, (wA_t 23 (by decide +kernel) rfl), (wA_t 24 (by decide +kernel) rfl), rfl, rfl⟩
theorem no_L_10 : NO RL 10 9 [.int 0, .null, .int 0, .null, .null, .int 0, .null, .null, .null, .null, .null, .null, .null, .null, .null, .long 0, .null, .null, .null, .null, .null, .long 0, .null, .null, .int 0, .null, .null, .null, .null] := ⟨RX9, TX9, 29, tyX9, rfl, wX9, tyX9_ok, (wA_t 784 (by decide +kernel) rfl), (wA_t 785 (by decide +kernel) rfl), (wA_t 10 (by decide +kernel) rfl), by decide +kernel, rfl⟩
theorem lk_L_12 : LKI RL 12 mX9_init 0 := ⟨okX9_init, (wA_t 786 (by decide +kernel) rfl), (wA_t 787 (by decide +kernel) rfl), rfl, rfl⟩
theorem lk_L_13 : LKV RL 13 mX8_debt 4 := ⟨okX8_debt, (wA_t 301 (by decide +kernel) rfl), (wA_t 302 (by decide +kernel) rfl), (wA_t 303 (by decide +kernel) rfl)⟩
theorem lk_L_17 : LKV RL 17 mX9_debt 4 := ⟨okX9_debt, (wA_t 878 (by decide +kernel) rfl), (wA_t 879 (by decide +kernel) rfl), (wA_t 880 (by decide +kernel) rfl)⟩
theorem lk_L_18 : LKV RL 18 mX8_set 3 := ⟨okX8_set, (wA_t 315 (by decide +kernel) rfl), (wA_t 316 (by decide +kernel) rfl), (wA_t 317 (by decide +kernel) rfl)⟩
theorem lk_L_22 : LKV RL 22 mX9_set 3 := ⟨okX9_set, (wA_t 891 (by decide +kernel) rfl), (wA_t 892 (by decide +kernel) rfl), (wA_t 893 (by decide +kernel) rfl)⟩
theorem lk_L_23 : LKV RL 23 mX8_pay 2 := ⟨okX8_pay, (wA_t 327 (by decide +kernel) rfl), (wA_t 328 (by decide +kernel) rfl), (wA_t 329 (by decide +kernel) rfl)⟩
theorem lk_L_27 : LKV RL 27 mX9_pay 2 := ⟨okX9_pay, (wA_t 901 (by decide +kernel) rfl), (wA_t 902 (by decide +kernel) rfl), (wA_t 903 (by decide +kernel) rfl)⟩
theorem lk_L_28 : LKV RL 28 mX8_pays 4 := ⟨okX8_pays, (wA_t 338 (by decide +kernel) rfl), (wA_t 339 (by decide +kernel) rfl), (wA_t 340 (by decide +kernel) rfl)⟩
theorem lk_L_31 : LKV RL 31 mX9_pays 4 := ⟨okX9_pays, (wA_t 1109 (by decide +kernel) rfl), (wA_t 1110 (by decide +kernel) rfl), (wA_t 1111 (by decide +kernel) rfl)⟩
theorem lk_L_32 : LKV RL 32 mX8_word 3 := ⟨okX8_word, (wA_t 352 (by decide +kernel) rfl), (wA_t 353 (by decide +kernel) rfl), (wA_t 354 (by decide +kernel) rfl)⟩
theorem lk_L_35 : LKV RL 35 mX9_word 3 := ⟨okX9_word, (wA_t 909 (by decide +kernel) rfl), (wA_t 910 (by decide +kernel) rfl), (wA_t 911 (by decide +kernel) rfl)⟩
theorem lk_L_36 : LKV RL 36 mX8_move 2 := ⟨okX8_move, (wA_t 364 (by decide +kernel) rfl), (wA_t 365 (by decide +kernel) rfl), (wA_t 366 (by decide +kernel) rfl)⟩
theorem lk_L_39 : LKV RL 39 mX9_move 2 := ⟨okX9_move, (wA_t 917 (by decide +kernel) rfl), (wA_t 918 (by decide +kernel) rfl), (wA_t 919 (by decide +kernel) rfl)⟩
theorem lk_L_40 : LKV RL 40 mX8_count 1 := ⟨okX8_count, (wA_t 368 (by decide +kernel) rfl), (wA_t 369 (by decide +kernel) rfl), (wA_t 370 (by decide +kernel) rfl)⟩
theorem lk_L_44 : LKV RL 44 mX9_count 1 := ⟨okX9_count, (wA_t 921 (by decide +kernel) rfl), (wA_t 922 (by decide +kernel) rfl), (wA_t 923 (by decide +kernel) rfl)⟩
theorem kl_L_45 : Cond.constantLong RL 45 (lI (4294967295)) ∈ wA := (wA_t 1118 (by decide +kernel) rfl)
theorem lk_L_47 : LKV RL 47 mX8_type 2 := ⟨okX8_type, (wA_t 376 (by decide +kernel) rfl), (wA_t 377 (by decide +kernel) rfl), (wA_t 378 (by decide +kernel) rfl)⟩
theorem lk_L_51 : LKV RL 51 mX9_type 2 := ⟨okX9_type, (wA_t 926 (by decide +kernel) rfl), (wA_t 927 (by decide +kernel) rfl), (wA_t 928 (by decide +kernel) rfl)⟩
theorem lk_L_52 : LKV RL 52 mX8_law 1 := ⟨okX8_law, (wA_t 390 (by decide +kernel) rfl), (wA_t 391 (by decide +kernel) rfl), (wA_t 392 (by decide +kernel) rfl)⟩
theorem lk_L_55 : LKV RL 55 mX9_law 1 := ⟨okX9_law, (wA_t 934 (by decide +kernel) rfl), (wA_t 935 (by decide +kernel) rfl), (wA_t 936 (by decide +kernel) rfl)⟩
theorem lk_L_56 : LKV RL 56 mX8_letter 2 := ⟨okX8_letter, (wA_t 497 (by decide +kernel) rfl), (wA_t 498 (by decide +kernel) rfl), (wA_t 499 (by decide +kernel) rfl)⟩
theorem lk_L_59 : LKV RL 59 mX9_letter 2 := ⟨okX9_letter, (wA_t 944 (by decide +kernel) rfl), (wA_t 945 (by decide +kernel) rfl), (wA_t 946 (by decide +kernel) rfl)⟩
theorem lk_L_60 : LKV RL 60 mX8_left 4 := ⟨okX8_left, (wA_t 501 (by decide +kernel) rfl), (wA_t 502 (by decide +kernel) rfl), (wA_t 503 (by decide +kernel) rfl)⟩
theorem lk_L_64 : LKV RL 64 mX9_left 4 := ⟨okX9_left, (wA_t 948 (by decide +kernel) rfl), (wA_t 949 (by decide +kernel) rfl), (wA_t 950 (by decide +kernel) rfl)⟩
theorem lk_L_65 : LKV RL 65 mX8_owed 2 := ⟨okX8_owed, (wA_t 626 (by decide +kernel) rfl), (wA_t 627 (by decide +kernel) rfl), (wA_t 628 (by decide +kernel) rfl)⟩
theorem lk_L_69 : LKV RL 69 mX9_owed 2 := ⟨okX9_owed, (wA_t 1006 (by decide +kernel) rfl), (wA_t 1007 (by decide +kernel) rfl), (wA_t 1008 (by decide +kernel) rfl)⟩
theorem lk_L_70 : LKV RL 70 mX8_put 4 := ⟨okX8_put, (wA_t 635 (by decide +kernel) rfl), (wA_t 636 (by decide +kernel) rfl), (wA_t 637 (by decide +kernel) rfl)⟩
theorem lk_L_73 : LKV RL 73 mX9_put 4 := ⟨okX9_put, (wA_t 1018 (by decide +kernel) rfl), (wA_t 1019 (by decide +kernel) rfl), (wA_t 1020 (by decide +kernel) rfl)⟩
theorem lk_L_74 : LKV RL 74 mX8_paid 2 := ⟨okX8_paid, (wA_t 643 (by decide +kernel) rfl), (wA_t 644 (by decide +kernel) rfl), (wA_t 645 (by decide +kernel) rfl)⟩
theorem lk_L_77 : LKV RL 77 mX9_paid 2 := ⟨okX9_paid, (wA_t 1022 (by decide +kernel) rfl), (wA_t 1023 (by decide +kernel) rfl), (wA_t 1024 (by decide +kernel) rfl)⟩
theorem lk_L_78 : LKV RL 78 mX8_dead 3 := ⟨okX8_dead, (wA_t 650 (by decide +kernel) rfl), (wA_t 651 (by decide +kernel) rfl), (wA_t 652 (by decide +kernel) rfl)⟩
theorem lk_L_81 : LKV RL 81 mX9_dead 3 := ⟨okX9_dead, (wA_t 1026 (by decide +kernel) rfl), (wA_t 1027 (by decide +kernel) rfl), (wA_t 1028 (by decide +kernel) rfl)⟩
theorem lk_L_82 : LKV RL 82 mX8_wakes 2 := ⟨okX8_wakes, (wA_t 660 (by decide +kernel) rfl), (wA_t 661 (by decide +kernel) rfl), (wA_t 662 (by decide +kernel) rfl)⟩
theorem lk_L_85 : LKV RL 85 mX9_wakes 2 := ⟨okX9_wakes, (wA_t 1030 (by decide +kernel) rfl), (wA_t 1031 (by decide +kernel) rfl), (wA_t 1032 (by decide +kernel) rfl)⟩
theorem lk_L_86 : LKV RL 86 mX8_free 2 := ⟨okX8_free, (wA_t 664 (by decide +kernel) rfl), (wA_t 665 (by decide +kernel) rfl), (wA_t 666 (by decide +kernel) rfl)⟩
theorem lk_L_89 : LKV RL 89 mX9_free 2 := ⟨okX9_free, (wA_t 1034 (by decide +kernel) rfl), (wA_t 1035 (by decide +kernel) rfl), (wA_t 1036 (by decide +kernel) rfl)⟩
theorem lk_L_90 : LKV RL 90 mX8_rank 3 := ⟨okX8_rank, (wA_t 669 (by decide +kernel) rfl), (wA_t 670 (by decide +kernel) rfl), (wA_t 671 (by decide +kernel) rfl)⟩
theorem lk_L_93 : LKV RL 93 mX9_rank 3 := ⟨okX9_rank, (wA_t 1038 (by decide +kernel) rfl), (wA_t 1039 (by decide +kernel) rfl), (wA_t 1040 (by decide +kernel) rfl)⟩
theorem lk_L_94 : LKV RL 94 mX8_best 4 := ⟨okX8_best, (wA_t 674 (by decide +kernel) rfl), (wA_t 675 (by decide +kernel) rfl), (wA_t 676 (by decide +kernel) rfl)⟩
theorem lk_L_97 : LKV RL 97 mX9_best 4 := ⟨okX9_best, (wA_t 1042 (by decide +kernel) rfl), (wA_t 1043 (by decide +kernel) rfl), (wA_t 1044 (by decide +kernel) rfl)⟩
theorem lk_L_98 : LKV RL 98 mX8_least 3 := ⟨okX8_least, (wA_t 712 (by decide +kernel) rfl), (wA_t 713 (by decide +kernel) rfl), (wA_t 714 (by decide +kernel) rfl)⟩
theorem lk_L_102 : LKV RL 102 mX9_least 3 := ⟨okX9_least, (wA_t 1050 (by decide +kernel) rfl), (wA_t 1051 (by decide +kernel) rfl), (wA_t 1052 (by decide +kernel) rfl)⟩
theorem lk_L_103 : LKV RL 103 mX8_answer 3 := ⟨okX8_answer, (wA_t 717 (by decide +kernel) rfl), (wA_t 718 (by decide +kernel) rfl), (wA_t 719 (by decide +kernel) rfl)⟩
theorem lk_L_106 : LKV RL 106 mX9_answer 3 := ⟨okX9_answer, (wA_t 1055 (by decide +kernel) rfl), (wA_t 1056 (by decide +kernel) rfl), (wA_t 1057 (by decide +kernel) rfl)⟩
theorem lk_L_107 : LKV RL 107 mX8_hangs 6 := ⟨okX8_hangs, (wA_t 721 (by decide +kernel) rfl), (wA_t 722 (by decide +kernel) rfl), (wA_t 723 (by decide +kernel) rfl)⟩
theorem lk_L_111 : LKV RL 111 mX9_hangs 6 := ⟨okX9_hangs, (wA_t 1059 (by decide +kernel) rfl), (wA_t 1060 (by decide +kernel) rfl), (wA_t 1061 (by decide +kernel) rfl)⟩
theorem lk_L_112 : LKV RL 112 mX8_plan 5 := ⟨okX8_plan, (wA_t 730 (by decide +kernel) rfl), (wA_t 731 (by decide +kernel) rfl), (wA_t 732 (by decide +kernel) rfl)⟩
theorem lk_L_116 : LKV RL 116 mX9_plan 5 := ⟨okX9_plan, (wA_t 1063 (by decide +kernel) rfl), (wA_t 1064 (by decide +kernel) rfl), (wA_t 1065 (by decide +kernel) rfl)⟩
theorem lk_L_117 : LKV RL 117 mX8_parts 0 := ⟨okX8_parts, (wA_t 737 (by decide +kernel) rfl), (wA_t 738 (by decide +kernel) rfl), (wA_t 739 (by decide +kernel) rfl)⟩
theorem lk_L_121 : LKV RL 121 mX9_parts 0 := ⟨okX9_parts, (wA_t 1069 (by decide +kernel) rfl), (wA_t 1070 (by decide +kernel) rfl), (wA_t 1071 (by decide +kernel) rfl)⟩
theorem lk_L_122 : LKV RL 122 mX8_gap 1 := ⟨okX8_gap, (wA_t 745 (by decide +kernel) rfl), (wA_t 746 (by decide +kernel) rfl), (wA_t 747 (by decide +kernel) rfl)⟩
theorem lk_L_126 : LKV RL 126 mX9_gap 1 := ⟨okX9_gap, (wA_t 1073 (by decide +kernel) rfl), (wA_t 1074 (by decide +kernel) rfl), (wA_t 1075 (by decide +kernel) rfl)⟩
theorem lk_L_127 : LKV RL 127 mX8_judge 5 := ⟨okX8_judge, (wA_t 750 (by decide +kernel) rfl), (wA_t 751 (by decide +kernel) rfl), (wA_t 752 (by decide +kernel) rfl)⟩
theorem lk_L_131 : LKV RL 131 mX9_judge 5 := ⟨okX9_judge, (wA_t 1114 (by decide +kernel) rfl), (wA_t 1115 (by decide +kernel) rfl), (wA_t 1116 (by decide +kernel) rfl)⟩
theorem lk_L_132 : LKV RL 132 mX8_image 0 := ⟨okX8_image, (wA_t 754 (by decide +kernel) rfl), (wA_t 755 (by decide +kernel) rfl), (wA_t 756 (by decide +kernel) rfl)⟩
theorem lk_L_135 : LKV RL 135 mX9_image 0 := ⟨okX9_image, (wA_t 1078 (by decide +kernel) rfl), (wA_t 1079 (by decide +kernel) rfl), (wA_t 1080 (by decide +kernel) rfl)⟩
theorem lk_L_136 : LKV RL 136 mX8_restore 0 := ⟨okX8_restore, (wA_t 759 (by decide +kernel) rfl), (wA_t 760 (by decide +kernel) rfl), (wA_t 761 (by decide +kernel) rfl)⟩
theorem lk_L_139 : LKV RL 139 mX9_restore 0 := ⟨okX9_restore, (wA_t 1086 (by decide +kernel) rfl), (wA_t 1087 (by decide +kernel) rfl), (wA_t 1088 (by decide +kernel) rfl)⟩
theorem lk_L_140 : LKV RL 140 mX8_sheet 3 := ⟨okX8_sheet, (wA_t 763 (by decide +kernel) rfl), (wA_t 764 (by decide +kernel) rfl), (wA_t 765 (by decide +kernel) rfl)⟩
theorem lk_L_143 : LKV RL 143 mX9_sheet 3 := ⟨okX9_sheet, (wA_t 1090 (by decide +kernel) rfl), (wA_t 1091 (by decide +kernel) rfl), (wA_t 1092 (by decide +kernel) rfl)⟩
theorem lk_L_144 : LKV RL 144 mX8_drop 1 := ⟨okX8_drop, (wA_t 772 (by decide +kernel) rfl), (wA_t 773 (by decide +kernel) rfl), (wA_t 774 (by decide +kernel) rfl)⟩
theorem lk_L_147 : LKV RL 147 mX9_drop 1 := ⟨okX9_drop, (wA_t 1097 (by decide +kernel) rfl), (wA_t 1098 (by decide +kernel) rfl), (wA_t 1099 (by decide +kernel) rfl)⟩
theorem lk_L_148 : LKV RL 148 mX8_item 4 := ⟨okX8_item, (wA_t 776 (by decide +kernel) rfl), (wA_t 777 (by decide +kernel) rfl), (wA_t 778 (by decide +kernel) rfl)⟩
theorem lk_L_151 : LKV RL 151 mX9_item 4 := ⟨okX9_item, (wA_t 1101 (by decide +kernel) rfl), (wA_t 1102 (by decide +kernel) rfl), (wA_t 1103 (by decide +kernel) rfl)⟩
theorem mi_i : Cond.initialized "java/lang/Math" ∈ wA := (wA_t 13 (by decide +kernel) rfl)
theorem ms_mx : Cond.static Lib.Math.max.name ∈ wA := (wA_t 431 (by decide +kernel) rfl)
set_option maxRecDepth 20000 in
theorem mc_mx : Cond.code Lib.Math.max.name Lib.Math.max.code 2 (some .int) ∈ wA := (wA_t 432 (by decide +kernel) rfl)
theorem ms_mn : Cond.static Lib.Math.min.name ∈ wA := (wA_t 434 (by decide +kernel) rfl)
set_option maxRecDepth 20000 in
theorem mc_mn : Cond.code Lib.Math.min.name Lib.Math.min.code 2 (some .int) ∈ wA := (wA_t 435 (by decide +kernel) rfl)
theorem ms_lx : Cond.static Lib.MathLoose.max_long.x ∈ wA := (wA_t 728 (by decide +kernel) rfl)
set_option maxRecDepth 20000 in
theorem mc_lx : Cond.code Lib.MathLoose.max_long.x Lib.MathLoose.max_long.code 4 (some .long) ∈ wA := (wA_t 729 (by decide +kernel) rfl)
theorem ms_ln : Cond.static Lib.MathLoose.min_long.x ∈ wA := (wA_t 585 (by decide +kernel) rfl)
set_option maxRecDepth 20000 in
theorem mc_ln : Cond.code Lib.MathLoose.min_long.x Lib.MathLoose.min_long.code 4 (some .long) ∈ wA := (wA_t 586 (by decide +kernel) rfl)
theorem ac_int : Cond.arrayClass .int ∈ wA := (wA_t 61 (by decide +kernel) rfl)
theorem ac_long : Cond.arrayClass .long ∈ wA := (wA_t 202 (by decide +kernel) rfl)
theorem ac_boolean : Cond.arrayClass .boolean ∈ wA := (wA_t 203 (by decide +kernel) rfl)
