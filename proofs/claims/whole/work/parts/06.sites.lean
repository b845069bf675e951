-- methods, words by their places, a row for each field link and for each call link
abbrev mX9_init : MT := (yX9_init, cX9_init, 2, none)
abbrev mX1_init : MT := (yX1_init, cX1_init, 1, none)
abbrev mX7_init : MT := (yX7_init, cX7_init, 1, none)
abbrev mX6_init : MT := (yX6_init, cX6_init, 1, none)
abbrev mX8_init : MT := (yX8_init, cX8_init, 1, none)
abbrev mX3_init : MT := (yX3_init, cX3_init, 1, none)
abbrev mX4_init : MT := (yX4_init, cX4_init, 1, none)
abbrev mX2_init : MT := (yX2_init, cX2_init, 1, none)
abbrev mX0_init : MT := (yX0_init, cX0_init, 1, none)
abbrev mX5_init : MT := (yX5_init, cX5_init, 1, none)
abbrev mX9_man : MT := (yX9_man, cX9_man, 4, some .int)
abbrev mX9_of : MT := (yX9_of, cX9_of, 3, some .int)
abbrev mX9_isMan : MT := (yX9_isMan, cX9_isMan, 2, some .boolean)
abbrev mX9_readyWaking : MT := (yX9_readyWaking, cX9_readyWaking, 3, some (.object "OneForDog$Wakings"))
abbrev mX9_heldVillage : MT := (yX9_heldVillage, cX9_heldVillage, 3, some (.object "OneForDog$Village"))
abbrev mX8_begin : MT := (yX8_begin, cX8_begin, 4, none)
abbrev mX8_partsFor : MT := (yX8_partsFor, cX8_partsFor, 3, some .int)
abbrev mX8_reckon : MT := (yX8_reckon, cX8_reckon, 6, none)
abbrev mX8_slot : MT := (yX8_slot, cX8_slot, 3, some .int)
abbrev mX6_over : MT := (yX6_over, cX6_over, 2, some .int)
abbrev mX6_sum : MT := (yX6_sum, cX6_sum, 7, some .int)
abbrev mX6_holds : MT := (yX6_holds, cX6_holds, 10, some .boolean)
abbrev mJ9_max_7cf53 : MT := (yJ9_max_7cf53, cJ9_max_7cf53, 2, some .int)
abbrev mX6_isSo : MT := (yX6_isSo, cX6_isSo, 5, some .boolean)
abbrev mX6_back : MT := (yX6_back, cX6_back, 2, some .int)
abbrev mX8_partsOf : MT := (yX8_partsOf, cX8_partsOf, 2, some .int)
abbrev mX8_overOf : MT := (yX8_overOf, cX8_overOf, 5, some .int)
abbrev mX8_backOf : MT := (yX8_backOf, cX8_backOf, 5, some .int)
abbrev mX8_comesOut : MT := (yX8_comesOut, cX8_comesOut, 4, some .boolean)
abbrev mX8_shareOnce : MT := (yX8_shareOnce, cX8_shareOnce, 7, some .boolean)
abbrev mX8_hiddenOf : MT := (yX8_hiddenOf, cX8_hiddenOf, 4, some .int)
abbrev mJ9_min_7cf53 : MT := (yJ9_min_7cf53, cJ9_min_7cf53, 2, some .int)
abbrev mX9_heap : MT := (yX9_heap, cX9_heap, 3, some .int)
abbrev mX9_isHeap : MT := (yX9_isHeap, cX9_isHeap, 1, some .boolean)
abbrev mX9_feed : MT := (yX9_feed, cX9_feed, 2, some .int)
abbrev mX7_add : MT := (yX7_add, cX7_add, 2, some .boolean)
abbrev mX7_size : MT := (yX7_size, cX7_size, 1, some .int)
abbrev mX9_village : MT := (yX9_village, cX9_village, 4, some .int)
abbrev mX7_readInto : MT := (yX7_readInto, cX7_readInto, 4, some .int)
abbrev mX6_clear : MT := (yX6_clear, cX6_clear, 1, none)
abbrev mX7_goTo : MT := (yX7_goTo, cX7_goTo, 2, none)
abbrev mX7_clause : MT := (yX7_clause, cX7_clause, 4, some .boolean)
abbrev mX7_word : MT := (yX7_word, cX7_word, 1, some .int)
abbrev mX7_spells : MT := (yX7_spells, cX7_spells, 3, some .boolean)
abbrev mJ0_length_8abf5 : MT := (yJ0_length_8abf5, cJ0_length_8abf5, 1, some .int)
abbrev mJ0_coder_7d493 : MT := (yJ0_coder_7d493, cJ0_coder_7d493, 1, some .byte)
abbrev mJ0_charAt_5068e : MT := (yJ0_charAt_5068e, cJ0_charAt_5068e, 2, some .char)
abbrev mJ0_isLatin1_aae02 : MT := (yJ0_isLatin1_aae02, cJ0_isLatin1_aae02, 1, some .boolean)
abbrev mJ1_charAt_3b067 : MT := (yJ1_charAt_3b067, cJ1_charAt_3b067, 2, some .char)
abbrev mJ0_checkIndex_df160 : MT := (yJ0_checkIndex_df160, cJ0_checkIndex_df160, 2, none)
abbrev mJ3_checkIndex_8e157 : MT := (yJ3_checkIndex_8e157, cJ3_checkIndex_8e157, 3, some .int)
abbrev mJ2_charAt_3b067 : MT := (yJ2_charAt_3b067, cJ2_charAt_3b067, 2, some .char)
abbrev mJ2_checkIndex_2214a : MT := (yJ2_checkIndex_2214a, cJ2_checkIndex_2214a, 2, none)
abbrev mJ2_length_9d52b : MT := (yJ2_length_9d52b, cJ2_length_9d52b, 1, some .int)
abbrev mJ2_getChar_3b067 : MT := (yJ2_getChar_3b067, cJ2_getChar_3b067, 2, some .char)
abbrev mX7_number : MT := (yX7_number, cX7_number, 2, some .int)
abbrev mX6_setShares : MT := (yX6_setShares, cX6_setShares, 2, none)
abbrev mX7_either : MT := (yX7_either, cX7_either, 5, some .boolean)
abbrev mX7_both : MT := (yX7_both, cX7_both, 5, some .boolean)
abbrev mX7_factor : MT := (yX7_factor, cX7_factor, 6, some .boolean)
abbrev mX7_nested : MT := (yX7_nested, cX7_nested, 5, some .boolean)
abbrev mX6_addStep : MT := (yX6_addStep, cX6_addStep, 2, none)
abbrev mX7_indexIn : MT := (yX7_indexIn, cX7_indexIn, 3, some .int)
abbrev mX6_addRule : MT := (yX6_addRule, cX6_addRule, 3, none)
abbrev mX7_clear : MT := (yX7_clear, cX7_clear, 1, none)
abbrev mX9_told : MT := (yX9_told, cX9_told, 2, some .int)
abbrev mX9_wake : MT := (yX9_wake, cX9_wake, 3, some .int)
abbrev mX9_row : MT := (yX9_row, cX9_row, 3, some .int)
abbrev mX9_night : MT := (yX9_night, cX9_night, 2, some .int)
abbrev mX9_readyNight : MT := (yX9_readyNight, cX9_readyNight, 1, some (.object "OneForDog$Night"))
abbrev mX3_begin : MT := (yX3_begin, cX3_begin, 4, none)
abbrev mX3_comesOut : MT := (yX3_comesOut, cX3_comesOut, 2, some .boolean)
abbrev mX3_walks : MT := (yX3_walks, cX3_walks, 5, some .boolean)
abbrev mX9_least : MT := (yX9_least, cX9_least, 2, some .int)
abbrev mX3_first : MT := (yX3_first, cX3_first, 4, some .int)
abbrev mX9_all : MT := (yX9_all, cX9_all, 2, some .int)
abbrev mX9_isBound : MT := (yX9_isBound, cX9_isBound, 1, some .boolean)
abbrev mX3_howMany : MT := (yX3_howMany, cX3_howMany, 5, some .int)
abbrev mX9_greatest : MT := (yX9_greatest, cX9_greatest, 2, some .int)
abbrev mX3_last : MT := (yX3_last, cX3_last, 3, some .int)
abbrev mX9_left : MT := (yX9_left, cX9_left, 4, some .int)
abbrev mX9_was : MT := (yX9_was, cX9_was, 2, some .int)
abbrev mX3_firstThatLeaves : MT := (yX3_firstThatLeaves, cX3_firstThatLeaves, 4, some .int)
abbrev mX9_up : MT := (yX9_up, cX9_up, 4, some .int)
abbrev mX4_seek : MT := (yX4_seek, cX4_seek, 7, none)
abbrev mX4_follow : MT := (yX4_follow, cX4_follow, 5, none)
abbrev mX4_keep : MT := (yX4_keep, cX4_keep, 2, none)
abbrev mX4_wakeNext : MT := (yX4_wakeNext, cX4_wakeNext, 6, none)
abbrev mX4_manAt : MT := (yX4_manAt, cX4_manAt, 2, some .int)
abbrev mX9_fair : MT := (yX9_fair, cX9_fair, 7, some .long)
abbrev mX9_ofFraction : MT := (yX9_ofFraction, cX9_ofFraction, 7, some .long)
abbrev mJ9_abs_067f4 : MT := (yJ9_abs_067f4, cJ9_abs_067f4, 2, some .long)
abbrev mX9_commonDivisor : MT := (yX9_commonDivisor, cX9_commonDivisor, 7, some .long)
abbrev mX9_chance : MT := (yX9_chance, cX9_chance, 3, some .long)
abbrev mX9_big : MT := (yX9_big, cX9_big, 7, some .int)
abbrev mX2_becomes : MT := (yX2_becomes, cX2_becomes, 5, none)
abbrev mJ7_fill_53178 : MT := (yJ7_fill_53178, cJ7_fill_53178, 4, none)
abbrev mX2_multiply : MT := (yX2_multiply, cX2_multiply, 5, none)
abbrev mX2_subtract : MT := (yX2_subtract, cX2_subtract, 5, none)
abbrev mJ9_floorMod_7cf53 : MT := (yJ9_floorMod_7cf53, cJ9_floorMod_7cf53, 3, some .int)
abbrev mJ9_floorDiv_7cf53 : MT := (yJ9_floorDiv_7cf53, cJ9_floorDiv_7cf53, 3, some .int)
abbrev mX2_restBy : MT := (yX2_restBy, cX2_restBy, 4, some .int)
abbrev mX2_size : MT := (yX2_size, cX2_size, 2, some .int)
abbrev mX2_digit : MT := (yX2_digit, cX2_digit, 2, some .int)
abbrev mX9_book : MT := (yX9_book, cX9_book, 3, some .int)
abbrev mX9_looked : MT := (yX9_looked, cX9_looked, 1, some .int)
abbrev mX3_firstOtherThan : MT := (yX3_firstOtherThan, cX3_firstOtherThan, 5, some .int)
abbrev mX9_judge : MT := (yX9_judge, cX9_judge, 7, some .int)
abbrev mX9_tapeAt : MT := (yX9_tapeAt, cX9_tapeAt, 2, some (.object "OneForDog$Tape"))
abbrev mX5_holdsSomething : MT := (yX5_holdsSomething, cX5_holdsSomething, 1, some .boolean)
abbrev mX5_has : MT := (yX5_has, cX5_has, 3, some .boolean)
abbrev mX5_at : MT := (yX5_at, cX5_at, 2, some .long)
abbrev mX9_image : MT := (yX9_image, cX9_image, 1, some .int)
abbrev mX1_becomes : MT := (yX1_becomes, cX1_becomes, 2, none)
abbrev mX9_undo : MT := (yX9_undo, cX9_undo, 1, some .int)
abbrev mX9_act : MT := (yX9_act, cX9_act, 4, some .int)
abbrev mX0_forget : MT := (yX0_forget, cX0_forget, 1, none)
abbrev mX0_actsFor : MT := (yX0_actsFor, cX0_actsFor, 6, some .int)
abbrev mX0_does : MT := (yX0_does, cX0_does, 7, some .int)
abbrev mX0_number : MT := (yX0_number, cX0_number, 3, some .int)
abbrev mX9_aboveOf : MT := (yX9_aboveOf, cX9_aboveOf, 1, some .int)
abbrev mX0_begins : MT := (yX0_begins, cX0_begins, 2, none)
abbrev mX0_runs : MT := (yX0_runs, cX0_runs, 5, some .int)
abbrev mX9_trace : MT := (yX9_trace, cX9_trace, 2, some .int)
abbrev mX0_hasKept : MT := (yX0_hasKept, cX0_hasKept, 2, some .boolean)
abbrev mX0_kept : MT := (yX0_kept, cX0_kept, 2, some .int)
abbrev mX9_taken : MT := (yX9_taken, cX9_taken, 4, some .int)
abbrev mX9_isUnder : MT := (yX9_isUnder, cX9_isUnder, 4, some .boolean)
abbrev mX9_count : MT := (yX9_count, cX9_count, 2, some .int)
abbrev mX9_tape : MT := (yX9_tape, cX9_tape, 5, some .int)
abbrev mX5_becomes : MT := (yX5_becomes, cX5_becomes, 3, none)
abbrev mJ7_fill_d0a16 : MT := (yJ7_fill_d0a16, cJ7_fill_d0a16, 5, none)
abbrev mX9_item : MT := (yX9_item, cX9_item, 6, some .int)
abbrev mX5_put : MT := (yX5_put, cX5_put, 4, none)
abbrev mX5_cut : MT := (yX5_cut, cX5_cut, 3, some .long)
abbrev mX9_read : MT := (yX9_read, cX9_read, 4, some .long)
abbrev mX9_shift : MT := (yX9_shift, cX9_shift, 8, some .int)
abbrev mX5_hasStretch : MT := (yX5_hasStretch, cX5_hasStretch, 3, some .boolean)
abbrev mX10_init : MT := (yX10_init, cX10_init, 1, none)
abbrev mX10_man : MT := (yX10_man, cX10_man, 3, some .int)
abbrev mX10_in : MT := (yX10_in, cX10_in, 4, some .boolean)
abbrev mX10_heap : MT := (yX10_heap, cX10_heap, 3, some .int)
abbrev mX10_isHeap : MT := (yX10_isHeap, cX10_isHeap, 2, some .boolean)
abbrev mX10_feed : MT := (yX10_feed, cX10_feed, 2, some .int)
abbrev mX10_village : MT := (yX10_village, cX10_village, 2, some .int)
abbrev mX10_goesText : MT := (yX10_goesText, cX10_goesText, 3, some .boolean)
abbrev mX10_takesClause : MT := (yX10_takesClause, cX10_takesClause, 2, some .boolean)
abbrev mX10_takesHead : MT := (yX10_takesHead, cX10_takesHead, 3, some .boolean)
abbrev mX10_second : MT := (yX10_second, cX10_second, 1, some .int)
abbrev mX10_next : MT := (yX10_next, cX10_next, 1, some .int)
abbrev mX10_takesWord : MT := (yX10_takesWord, cX10_takesWord, 4, some .boolean)
abbrev mX10_takes : MT := (yX10_takes, cX10_takes, 2, some .boolean)
abbrev mX10_takesNumber : MT := (yX10_takesNumber, cX10_takesNumber, 2, some .boolean)
abbrev mX10_isDigit : MT := (yX10_isDigit, cX10_isDigit, 1, some .boolean)
abbrev mX10_takesE : MT := (yX10_takesE, cX10_takesE, 4, some .boolean)
abbrev mX10_takesTest : MT := (yX10_takesTest, cX10_takesTest, 3, some .boolean)
abbrev mX10_place : MT := (yX10_place, cX10_place, 2, some .int)
abbrev mX10_put : MT := (yX10_put, cX10_put, 2, none)
abbrev mX10_whole : MT := (yX10_whole, cX10_whole, 1, none)
abbrev mX10_settle : MT := (yX10_settle, cX10_settle, 2, none)
abbrev mX10_of : MT := (yX10_of, cX10_of, 3, some .int)
abbrev mX10_isMan : MT := (yX10_isMan, cX10_isMan, 2, some .boolean)
abbrev mX10_partsOf : MT := (yX10_partsOf, cX10_partsOf, 2, some .int)
abbrev mX10_shares : MT := (yX10_shares, cX10_shares, 2, some .int)
abbrev mX10_lastOf : MT := (yX10_lastOf, cX10_lastOf, 5, some .int)
abbrev mX10_begin : MT := (yX10_begin, cX10_begin, 1, some .int)
abbrev mX10_behind : MT := (yX10_behind, cX10_behind, 1, some .int)
abbrev mX10_overOf : MT := (yX10_overOf, cX10_overOf, 4, some .int)
abbrev mX10_hasOver : MT := (yX10_hasOver, cX10_hasOver, 2, some .boolean)
abbrev mX10_sumOf : MT := (yX10_sumOf, cX10_sumOf, 7, some .int)
abbrev mX10_holds : MT := (yX10_holds, cX10_holds, 10, some .boolean)
abbrev mX10_factOf : MT := (yX10_factOf, cX10_factOf, 5, some .int)
abbrev mX10_comesOut : MT := (yX10_comesOut, cX10_comesOut, 5, some .boolean)
abbrev mX10_told : MT := (yX10_told, cX10_told, 2, some .int)
abbrev mX10_wake : MT := (yX10_wake, cX10_wake, 2, some .int)
abbrev mX10_wakes : MT := (yX10_wakes, cX10_wakes, 4, some .boolean)
abbrev mX10_shared : MT := (yX10_shared, cX10_shared, 5, some .boolean)
abbrev mX10_hidesOf : MT := (yX10_hidesOf, cX10_hidesOf, 6, some .int)
abbrev mX10_row : MT := (yX10_row, cX10_row, 2, some .int)
abbrev mX10_night : MT := (yX10_night, cX10_night, 2, some .int)
abbrev mX10_isNight : MT := (yX10_isNight, cX10_isNight, 2, some .boolean)
abbrev mX10_goesRow : MT := (yX10_goesRow, cX10_goesRow, 3, some .boolean)
abbrev mX10_least : MT := (yX10_least, cX10_least, 3, some .int)
abbrev mX10_all : MT := (yX10_all, cX10_all, 4, some .int)
abbrev mX10_greatest : MT := (yX10_greatest, cX10_greatest, 3, some .int)
abbrev mX10_left : MT := (yX10_left, cX10_left, 3, some .int)
abbrev mX10_was : MT := (yX10_was, cX10_was, 3, some .int)
abbrev mX10_up : MT := (yX10_up, cX10_up, 9, some .int)
abbrev mX10_layUp : MT := (yX10_layUp, cX10_layUp, 6, some .boolean)
abbrev mX10_leadsTo : MT := (yX10_leadsTo, cX10_leadsTo, 5, some .boolean)
abbrev mX10_fair : MT := (yX10_fair, cX10_fair, 8, some .long)
abbrev mX10_divisor : MT := (yX10_divisor, cX10_divisor, 11, some .long)
abbrev mX10_chance : MT := (yX10_chance, cX10_chance, 7, some .long)
abbrev mX10_big : MT := (yX10_big, cX10_big, 8, some .int)
abbrev mX10_layBig : MT := (yX10_layBig, cX10_layBig, 5, none)
abbrev mX10_times : MT := (yX10_times, cX10_times, 5, none)
abbrev mX10_less : MT := (yX10_less, cX10_less, 5, some .boolean)
abbrev mX10_book : MT := (yX10_book, cX10_book, 2, some .int)
abbrev mX10_looked : MT := (yX10_looked, cX10_looked, 2, some .int)
abbrev mX10_judge : MT := (yX10_judge, cX10_judge, 4, some .int)
abbrev mX10_isTape : MT := (yX10_isTape, cX10_isTape, 2, some .boolean)
abbrev mX10_image : MT := (yX10_image, cX10_image, 2, some .int)
abbrev mX10_undo : MT := (yX10_undo, cX10_undo, 2, some .int)
abbrev mX10_act : MT := (yX10_act, cX10_act, 4, some .int)
abbrev mX10_wakesAct : MT := (yX10_wakesAct, cX10_wakesAct, 3, some .int)
abbrev mX10_body : MT := (yX10_body, cX10_body, 2, none)
abbrev mX10_manWakes : MT := (yX10_manWakes, cX10_manWakes, 3, some .int)
abbrev mX10_hidesAct : MT := (yX10_hidesAct, cX10_hidesAct, 4, some .int)
abbrev mX10_sharingHides : MT := (yX10_sharingHides, cX10_sharingHides, 3, some .int)
abbrev mX10_manHides : MT := (yX10_manHides, cX10_manHides, 3, some .int)
abbrev mX10_tellsAct : MT := (yX10_tellsAct, cX10_tellsAct, 4, some .int)
abbrev mX10_manTells : MT := (yX10_manTells, cX10_manTells, 3, some .int)
abbrev mX10_trace : MT := (yX10_trace, cX10_trace, 2, some .int)
abbrev mX10_taken : MT := (yX10_taken, cX10_taken, 4, some .int)
abbrev mX10_count : MT := (yX10_count, cX10_count, 2, some .int)
abbrev mX10_tape : MT := (yX10_tape, cX10_tape, 5, some .int)
abbrev mX10_item : MT := (yX10_item, cX10_item, 5, some .int)
abbrev mX10_narrow : MT := (yX10_narrow, cX10_narrow, 4, some .long)
abbrev mX10_read : MT := (yX10_read, cX10_read, 3, some .long)
abbrev mX10_shift : MT := (yX10_shift, cX10_shift, 7, some .int)
abbrev mL_law : MT := (x, code, maxLocals, ret)
theorem inW0 : ∀ w ∈ wsX00, w ∈ Wd := wd_all (by decide +kernel)
theorem inW1 : ∀ w ∈ wsX10, w ∈ Wd := wd_all (by decide +kernel)
theorem inW2 : ∀ w ∈ wsX20, w ∈ Wd := wd_all (by decide +kernel)
theorem inW3 : ∀ w ∈ wsX30, w ∈ Wd := wd_all (by decide +kernel)
theorem inW4 : ∀ w ∈ wsX40, w ∈ Wd := wd_all (by decide +kernel)
theorem inW5 : ∀ w ∈ wsX50, w ∈ Wd := wd_all (by decide +kernel)
theorem inW6 : ∀ w ∈ wsX60, w ∈ Wd := wd_all (by decide +kernel)
theorem inW7 : ∀ w ∈ wsX70, w ∈ Wd := wd_all (by decide +kernel)
theorem inW8 : ∀ w ∈ wsX80, w ∈ Wd := wd_all (by decide +kernel)
theorem inW9 : ∀ w ∈ wsX90, w ∈ Wd := wd_all (by decide +kernel)
theorem inW10 : ∀ w ∈ wsX100, w ∈ Wd := wd_all (by decide +kernel)
section SR
variable {D : G} {X : CX} {mt : MT} {d kc ks cells slots pc : Nat} {lv : List (Nat × Value)} {st : List Value} {ws : va_W}
theorem tw_109 : Cond.fieldLink RX1 9 "OneForDog$Camp" "men" "I" ∈ Wd := wd_of 109 (by decide +kernel) (by decide +kernel)
theorem gf_X1_9 (O : Ok D X mt d kc ks) (hm : mt.1.cls = RX1) (hdg : decode mt.2.1 pc = .ok (.getfield 9, 3)) (q0 : Nat) {a : Nat} {fs : List Value} (he : ws[q0]? = some (a, .inr (1, fs))) {v : Value} (hv : fs[0]? = some v) (K : V D X cells slots (pc + 3) lv (v :: st) ws) : V D X cells slots pc lv (.ref a :: st) ws :=
  v_get (k := 0) (T := TX1) O inW1 rfl (by decide) (by rw [hm]; exact tw_109) rfl hdg q0 he hv K
theorem pf_X1_9 (O : Ok D X mt d kc ks) (hm : mt.1.cls = RX1) (hdg : decode mt.2.1 pc = .ok (.putfield 9, 3)) (q0 : Nat) {a : Nat} {fs fs' : List Value} {x : Int32} (he : ws[q0]? = some (a, .inr (1, fs))) (hlen : 0 < fs.length) (hfs : fs.set 0 (.int x) = fs') {ws' : va_W} (hws : ws.set q0 (a, .inr (1, fs')) = ws') (K : V D X cells slots (pc + 3) lv st ws') : V D X cells slots pc lv (.int x :: .ref a :: st) ws :=
  v_put (k := 0) (T := TX1) (ty := .int) O inW1 tyX1 tyX1_ok nmX1 rfl (by decide) (by rw [hm]; exact tw_109) rfl rfl (by decide +kernel) hdg q0 he rfl rfl hlen hfs hws K
theorem tw_110 : Cond.fieldLink RX4 38 "OneForDog$Camp" "men" "I" ∈ Wd := wd_of 110 (by decide +kernel) (by decide +kernel)
theorem gf_X4_38 (O : Ok D X mt d kc ks) (hm : mt.1.cls = RX4) (hdg : decode mt.2.1 pc = .ok (.getfield 38, 3)) (q0 : Nat) {a : Nat} {fs : List Value} (he : ws[q0]? = some (a, .inr (1, fs))) {v : Value} (hv : fs[0]? = some v) (K : V D X cells slots (pc + 3) lv (v :: st) ws) : V D X cells slots pc lv (.ref a :: st) ws :=
  v_get (k := 0) (T := TX1) O inW1 rfl (by decide) (by rw [hm]; exact tw_110) rfl hdg q0 he hv K
theorem tw_111 : Cond.fieldLink RX9 89 "OneForDog$Camp" "men" "I" ∈ Wd := wd_of 111 (by decide +kernel) (by decide +kernel)
theorem gf_X9_89 (O : Ok D X mt d kc ks) (hm : mt.1.cls = RX9) (hdg : decode mt.2.1 pc = .ok (.getfield 89, 3)) (q0 : Nat) {a : Nat} {fs : List Value} (he : ws[q0]? = some (a, .inr (1, fs))) {v : Value} (hv : fs[0]? = some v) (K : V D X cells slots (pc + 3) lv (v :: st) ws) : V D X cells slots pc lv (.ref a :: st) ws :=
  v_get (k := 0) (T := TX1) O inW1 rfl (by decide) (by rw [hm]; exact tw_111) rfl hdg q0 he hv K
theorem pf_X9_89 (O : Ok D X mt d kc ks) (hm : mt.1.cls = RX9) (hdg : decode mt.2.1 pc = .ok (.putfield 89, 3)) (q0 : Nat) {a : Nat} {fs fs' : List Value} {x : Int32} (he : ws[q0]? = some (a, .inr (1, fs))) (hlen : 0 < fs.length) (hfs : fs.set 0 (.int x) = fs') {ws' : va_W} (hws : ws.set q0 (a, .inr (1, fs')) = ws') (K : V D X cells slots (pc + 3) lv st ws') : V D X cells slots pc lv (.int x :: .ref a :: st) ws :=
  v_put (k := 0) (T := TX1) (ty := .int) O inW1 tyX1 tyX1_ok nmX1 rfl (by decide) (by rw [hm]; exact tw_111) rfl rfl (by decide +kernel) hdg q0 he rfl rfl hlen hfs hws K
theorem tw_112 : Cond.fieldLink RX1 15 "OneForDog$Camp" "kinds" "[I" ∈ Wd := wd_of 112 (by decide +kernel) (by decide +kernel)
theorem gf_X1_15 (O : Ok D X mt d kc ks) (hm : mt.1.cls = RX1) (hdg : decode mt.2.1 pc = .ok (.getfield 15, 3)) (q0 : Nat) {a : Nat} {fs : List Value} (he : ws[q0]? = some (a, .inr (1, fs))) {v : Value} (hv : fs[1]? = some v) (K : V D X cells slots (pc + 3) lv (v :: st) ws) : V D X cells slots pc lv (.ref a :: st) ws :=
  v_get (k := 1) (T := TX1) O inW1 rfl (by decide) (by rw [hm]; exact tw_112) rfl hdg q0 he hv K
theorem pf_X1_15 (O : Ok D X mt d kc ks) (hm : mt.1.cls = RX1) (hini : mt.1.name = "<init>") (hdg : decode mt.2.1 pc = .ok (.putfield 15, 3)) (q0 : Nat) {a : Nat} {fs fs' : List Value} {x : Nat} (he : ws[q0]? = some (a, .inr (1, fs))) (hlen : 1 < fs.length) (hfs : fs.set 1 (.ref x) = fs') {ws' : va_W} (hws : ws.set q0 (a, .inr (1, fs')) = ws') (K : V D X cells slots (pc + 3) lv st ws') : V D X cells slots pc lv (.ref x :: .ref a :: st) ws :=
  v_putF (k := 1) (T := TX1) (ty := .array .int) O inW1 tyX1 tyX1_ok nmX1 rfl (by decide) (by rw [hm]; exact tw_112) rfl rfl hini (by rw [hm]; rfl) (by decide +kernel) hdg q0 he rfl rfl hlen hfs hws K
theorem tw_113 : Cond.fieldLink RX8 50 "OneForDog$Camp" "kinds" "[I" ∈ Wd := wd_of 113 (by decide +kernel) (by decide +kernel)
theorem gf_X8_50 (O : Ok D X mt d kc ks) (hm : mt.1.cls = RX8) (hdg : decode mt.2.1 pc = .ok (.getfield 50, 3)) (q0 : Nat) {a : Nat} {fs : List Value} (he : ws[q0]? = some (a, .inr (1, fs))) {v : Value} (hv : fs[1]? = some v) (K : V D X cells slots (pc + 3) lv (v :: st) ws) : V D X cells slots pc lv (.ref a :: st) ws :=
  v_get (k := 1) (T := TX1) O inW1 rfl (by decide) (by rw [hm]; exact tw_113) rfl hdg q0 he hv K
theorem tw_114 : Cond.fieldLink RX9 92 "OneForDog$Camp" "kinds" "[I" ∈ Wd := wd_of 114 (by decide +kernel) (by decide +kernel)
theorem gf_X9_92 (O : Ok D X mt d kc ks) (hm : mt.1.cls = RX9) (hdg : decode mt.2.1 pc = .ok (.getfield 92, 3)) (q0 : Nat) {a : Nat} {fs : List Value} (he : ws[q0]? = some (a, .inr (1, fs))) {v : Value} (hv : fs[1]? = some v) (K : V D X cells slots (pc + 3) lv (v :: st) ws) : V D X cells slots pc lv (.ref a :: st) ws :=
  v_get (k := 1) (T := TX1) O inW1 rfl (by decide) (by rw [hm]; exact tw_114) rfl hdg q0 he hv K
theorem tw_115 : Cond.fieldLink RX1 19 "OneForDog$Camp" "values" "[I" ∈ Wd := wd_of 115 (by decide +kernel) (by decide +kernel)
theorem gf_X1_19 (O : Ok D X mt d kc ks) (hm : mt.1.cls = RX1) (hdg : decode mt.2.1 pc = .ok (.getfield 19, 3)) (q0 : Nat) {a : Nat} {fs : List Value} (he : ws[q0]? = some (a, .inr (1, fs))) {v : Value} (hv : fs[2]? = some v) (K : V D X cells slots (pc + 3) lv (v :: st) ws) : V D X cells slots pc lv (.ref a :: st) ws :=
  v_get (k := 2) (T := TX1) O inW1 rfl (by decide) (by rw [hm]; exact tw_115) rfl hdg q0 he hv K
theorem pf_X1_19 (O : Ok D X mt d kc ks) (hm : mt.1.cls = RX1) (hini : mt.1.name = "<init>") (hdg : decode mt.2.1 pc = .ok (.putfield 19, 3)) (q0 : Nat) {a : Nat} {fs fs' : List Value} {x : Nat} (he : ws[q0]? = some (a, .inr (1, fs))) (hlen : 2 < fs.length) (hfs : fs.set 2 (.ref x) = fs') {ws' : va_W} (hws : ws.set q0 (a, .inr (1, fs')) = ws') (K : V D X cells slots (pc + 3) lv st ws') : V D X cells slots pc lv (.ref x :: .ref a :: st) ws :=
  v_putF (k := 2) (T := TX1) (ty := .array .int) O inW1 tyX1 tyX1_ok nmX1 rfl (by decide) (by rw [hm]; exact tw_115) rfl rfl hini (by rw [hm]; rfl) (by decide +kernel) hdg q0 he rfl rfl hlen hfs hws K
theorem tw_116 : Cond.fieldLink RX8 51 "OneForDog$Camp" "values" "[I" ∈ Wd := wd_of 116 (by decide +kernel) (by decide +kernel)
theorem gf_X8_51 (O : Ok D X mt d kc ks) (hm : mt.1.cls = RX8) (hdg : decode mt.2.1 pc = .ok (.getfield 51, 3)) (q0 : Nat) {a : Nat} {fs : List Value} (he : ws[q0]? = some (a, .inr (1, fs))) {v : Value} (hv : fs[2]? = some v) (K : V D X cells slots (pc + 3) lv (v :: st) ws) : V D X cells slots pc lv (.ref a :: st) ws :=
  v_get (k := 2) (T := TX1) O inW1 rfl (by decide) (by rw [hm]; exact tw_116) rfl hdg q0 he hv K
theorem tw_117 : Cond.fieldLink RX9 96 "OneForDog$Camp" "values" "[I" ∈ Wd := wd_of 117 (by decide +kernel) (by decide +kernel)
theorem gf_X9_96 (O : Ok D X mt d kc ks) (hm : mt.1.cls = RX9) (hdg : decode mt.2.1 pc = .ok (.getfield 96, 3)) (q0 : Nat) {a : Nat} {fs : List Value} (he : ws[q0]? = some (a, .inr (1, fs))) {v : Value} (hv : fs[2]? = some v) (K : V D X cells slots (pc + 3) lv (v :: st) ws) : V D X cells slots pc lv (.ref a :: st) ws :=
  v_get (k := 2) (T := TX1) O inW1 rfl (by decide) (by rw [hm]; exact tw_117) rfl hdg q0 he hv K
theorem tw_118 : Cond.fieldLink RX1 22 "OneForDog$Camp" "hidden" "[I" ∈ Wd := wd_of 118 (by decide +kernel) (by decide +kernel)
theorem gf_X1_22 (O : Ok D X mt d kc ks) (hm : mt.1.cls = RX1) (hdg : decode mt.2.1 pc = .ok (.getfield 22, 3)) (q0 : Nat) {a : Nat} {fs : List Value} (he : ws[q0]? = some (a, .inr (1, fs))) {v : Value} (hv : fs[3]? = some v) (K : V D X cells slots (pc + 3) lv (v :: st) ws) : V D X cells slots pc lv (.ref a :: st) ws :=
  v_get (k := 3) (T := TX1) O inW1 rfl (by decide) (by rw [hm]; exact tw_118) rfl hdg q0 he hv K
theorem pf_X1_22 (O : Ok D X mt d kc ks) (hm : mt.1.cls = RX1) (hini : mt.1.name = "<init>") (hdg : decode mt.2.1 pc = .ok (.putfield 22, 3)) (q0 : Nat) {a : Nat} {fs fs' : List Value} {x : Nat} (he : ws[q0]? = some (a, .inr (1, fs))) (hlen : 3 < fs.length) (hfs : fs.set 3 (.ref x) = fs') {ws' : va_W} (hws : ws.set q0 (a, .inr (1, fs')) = ws') (K : V D X cells slots (pc + 3) lv st ws') : V D X cells slots pc lv (.ref x :: .ref a :: st) ws :=
  v_putF (k := 3) (T := TX1) (ty := .array .int) O inW1 tyX1 tyX1_ok nmX1 rfl (by decide) (by rw [hm]; exact tw_118) rfl rfl hini (by rw [hm]; rfl) (by decide +kernel) hdg q0 he rfl rfl hlen hfs hws K
theorem tw_119 : Cond.fieldLink RX9 99 "OneForDog$Camp" "hidden" "[I" ∈ Wd := wd_of 119 (by decide +kernel) (by decide +kernel)
theorem gf_X9_99 (O : Ok D X mt d kc ks) (hm : mt.1.cls = RX9) (hdg : decode mt.2.1 pc = .ok (.getfield 99, 3)) (q0 : Nat) {a : Nat} {fs : List Value} (he : ws[q0]? = some (a, .inr (1, fs))) {v : Value} (hv : fs[3]? = some v) (K : V D X cells slots (pc + 3) lv (v :: st) ws) : V D X cells slots pc lv (.ref a :: st) ws :=
  v_get (k := 3) (T := TX1) O inW1 rfl (by decide) (by rw [hm]; exact tw_119) rfl hdg q0 he hv K
theorem tw_120 : Cond.fieldLink RX1 25 "OneForDog$Camp" "heap" "I" ∈ Wd := wd_of 120 (by decide +kernel) (by decide +kernel)
theorem gf_X1_25 (O : Ok D X mt d kc ks) (hm : mt.1.cls = RX1) (hdg : decode mt.2.1 pc = .ok (.getfield 25, 3)) (q0 : Nat) {a : Nat} {fs : List Value} (he : ws[q0]? = some (a, .inr (1, fs))) {v : Value} (hv : fs[4]? = some v) (K : V D X cells slots (pc + 3) lv (v :: st) ws) : V D X cells slots pc lv (.ref a :: st) ws :=
  v_get (k := 4) (T := TX1) O inW1 rfl (by decide) (by rw [hm]; exact tw_120) rfl hdg q0 he hv K
theorem pf_X1_25 (O : Ok D X mt d kc ks) (hm : mt.1.cls = RX1) (hdg : decode mt.2.1 pc = .ok (.putfield 25, 3)) (q0 : Nat) {a : Nat} {fs fs' : List Value} {x : Int32} (he : ws[q0]? = some (a, .inr (1, fs))) (hlen : 4 < fs.length) (hfs : fs.set 4 (.int x) = fs') {ws' : va_W} (hws : ws.set q0 (a, .inr (1, fs')) = ws') (K : V D X cells slots (pc + 3) lv st ws') : V D X cells slots pc lv (.int x :: .ref a :: st) ws :=
  v_put (k := 4) (T := TX1) (ty := .int) O inW1 tyX1 tyX1_ok nmX1 rfl (by decide) (by rw [hm]; exact tw_120) rfl rfl (by decide +kernel) hdg q0 he rfl rfl hlen hfs hws K
theorem tw_121 : Cond.fieldLink RX9 114 "OneForDog$Camp" "heap" "I" ∈ Wd := wd_of 121 (by decide +kernel) (by decide +kernel)
theorem gf_X9_114 (O : Ok D X mt d kc ks) (hm : mt.1.cls = RX9) (hdg : decode mt.2.1 pc = .ok (.getfield 114, 3)) (q0 : Nat) {a : Nat} {fs : List Value} (he : ws[q0]? = some (a, .inr (1, fs))) {v : Value} (hv : fs[4]? = some v) (K : V D X cells slots (pc + 3) lv (v :: st) ws) : V D X cells slots pc lv (.ref a :: st) ws :=
  v_get (k := 4) (T := TX1) O inW1 rfl (by decide) (by rw [hm]; exact tw_121) rfl hdg q0 he hv K
theorem pf_X9_114 (O : Ok D X mt d kc ks) (hm : mt.1.cls = RX9) (hdg : decode mt.2.1 pc = .ok (.putfield 114, 3)) (q0 : Nat) {a : Nat} {fs fs' : List Value} {x : Int32} (he : ws[q0]? = some (a, .inr (1, fs))) (hlen : 4 < fs.length) (hfs : fs.set 4 (.int x) = fs') {ws' : va_W} (hws : ws.set q0 (a, .inr (1, fs')) = ws') (K : V D X cells slots (pc + 3) lv st ws') : V D X cells slots pc lv (.int x :: .ref a :: st) ws :=
  v_put (k := 4) (T := TX1) (ty := .int) O inW1 tyX1 tyX1_ok nmX1 rfl (by decide) (by rw [hm]; exact tw_121) rfl rfl (by decide +kernel) hdg q0 he rfl rfl hlen hfs hws K
theorem tw_122 : Cond.fieldLink RX1 28 "OneForDog$Camp" "dogs" "I" ∈ Wd := wd_of 122 (by decide +kernel) (by decide +kernel)
theorem gf_X1_28 (O : Ok D X mt d kc ks) (hm : mt.1.cls = RX1) (hdg : decode mt.2.1 pc = .ok (.getfield 28, 3)) (q0 : Nat) {a : Nat} {fs : List Value} (he : ws[q0]? = some (a, .inr (1, fs))) {v : Value} (hv : fs[5]? = some v) (K : V D X cells slots (pc + 3) lv (v :: st) ws) : V D X cells slots pc lv (.ref a :: st) ws :=
  v_get (k := 5) (T := TX1) O inW1 rfl (by decide) (by rw [hm]; exact tw_122) rfl hdg q0 he hv K
theorem pf_X1_28 (O : Ok D X mt d kc ks) (hm : mt.1.cls = RX1) (hdg : decode mt.2.1 pc = .ok (.putfield 28, 3)) (q0 : Nat) {a : Nat} {fs fs' : List Value} {x : Int32} (he : ws[q0]? = some (a, .inr (1, fs))) (hlen : 5 < fs.length) (hfs : fs.set 5 (.int x) = fs') {ws' : va_W} (hws : ws.set q0 (a, .inr (1, fs')) = ws') (K : V D X cells slots (pc + 3) lv st ws') : V D X cells slots pc lv (.int x :: .ref a :: st) ws :=
  v_put (k := 5) (T := TX1) (ty := .int) O inW1 tyX1 tyX1_ok nmX1 rfl (by decide) (by rw [hm]; exact tw_122) rfl rfl (by decide +kernel) hdg q0 he rfl rfl hlen hfs hws K
theorem tw_123 : Cond.fieldLink RX9 158 "OneForDog$Camp" "dogs" "I" ∈ Wd := wd_of 123 (by decide +kernel) (by decide +kernel)
theorem gf_X9_158 (O : Ok D X mt d kc ks) (hm : mt.1.cls = RX9) (hdg : decode mt.2.1 pc = .ok (.getfield 158, 3)) (q0 : Nat) {a : Nat} {fs : List Value} (he : ws[q0]? = some (a, .inr (1, fs))) {v : Value} (hv : fs[5]? = some v) (K : V D X cells slots (pc + 3) lv (v :: st) ws) : V D X cells slots pc lv (.ref a :: st) ws :=
  v_get (k := 5) (T := TX1) O inW1 rfl (by decide) (by rw [hm]; exact tw_123) rfl hdg q0 he hv K
theorem pf_X9_158 (O : Ok D X mt d kc ks) (hm : mt.1.cls = RX9) (hdg : decode mt.2.1 pc = .ok (.putfield 158, 3)) (q0 : Nat) {a : Nat} {fs fs' : List Value} {x : Int32} (he : ws[q0]? = some (a, .inr (1, fs))) (hlen : 5 < fs.length) (hfs : fs.set 5 (.int x) = fs') {ws' : va_W} (hws : ws.set q0 (a, .inr (1, fs')) = ws') (K : V D X cells slots (pc + 3) lv st ws') : V D X cells slots pc lv (.int x :: .ref a :: st) ws :=
  v_put (k := 5) (T := TX1) (ty := .int) O inW1 tyX1 tyX1_ok nmX1 rfl (by decide) (by rw [hm]; exact tw_123) rfl rfl (by decide +kernel) hdg q0 he rfl rfl hlen hfs hws K
theorem tw_124 : Cond.fieldLink RX1 31 "OneForDog$Camp" "wakings" "I" ∈ Wd := wd_of 124 (by decide +kernel) (by decide +kernel)
theorem gf_X1_31 (O : Ok D X mt d kc ks) (hm : mt.1.cls = RX1) (hdg : decode mt.2.1 pc = .ok (.getfield 31, 3)) (q0 : Nat) {a : Nat} {fs : List Value} (he : ws[q0]? = some (a, .inr (1, fs))) {v : Value} (hv : fs[6]? = some v) (K : V D X cells slots (pc + 3) lv (v :: st) ws) : V D X cells slots pc lv (.ref a :: st) ws :=
  v_get (k := 6) (T := TX1) O inW1 rfl (by decide) (by rw [hm]; exact tw_124) rfl hdg q0 he hv K
theorem pf_X1_31 (O : Ok D X mt d kc ks) (hm : mt.1.cls = RX1) (hdg : decode mt.2.1 pc = .ok (.putfield 31, 3)) (q0 : Nat) {a : Nat} {fs fs' : List Value} {x : Int32} (he : ws[q0]? = some (a, .inr (1, fs))) (hlen : 6 < fs.length) (hfs : fs.set 6 (.int x) = fs') {ws' : va_W} (hws : ws.set q0 (a, .inr (1, fs')) = ws') (K : V D X cells slots (pc + 3) lv st ws') : V D X cells slots pc lv (.int x :: .ref a :: st) ws :=
  v_put (k := 6) (T := TX1) (ty := .int) O inW1 tyX1 tyX1_ok nmX1 rfl (by decide) (by rw [hm]; exact tw_124) rfl rfl (by decide +kernel) hdg q0 he rfl rfl hlen hfs hws K
theorem tw_125 : Cond.fieldLink RX8 45 "OneForDog$Camp" "wakings" "I" ∈ Wd := wd_of 125 (by decide +kernel) (by decide +kernel)
theorem gf_X8_45 (O : Ok D X mt d kc ks) (hm : mt.1.cls = RX8) (hdg : decode mt.2.1 pc = .ok (.getfield 45, 3)) (q0 : Nat) {a : Nat} {fs : List Value} (he : ws[q0]? = some (a, .inr (1, fs))) {v : Value} (hv : fs[6]? = some v) (K : V D X cells slots (pc + 3) lv (v :: st) ws) : V D X cells slots pc lv (.ref a :: st) ws :=
  v_get (k := 6) (T := TX1) O inW1 rfl (by decide) (by rw [hm]; exact tw_125) rfl hdg q0 he hv K
theorem tw_126 : Cond.fieldLink RX9 161 "OneForDog$Camp" "wakings" "I" ∈ Wd := wd_of 126 (by decide +kernel) (by decide +kernel)
theorem gf_X9_161 (O : Ok D X mt d kc ks) (hm : mt.1.cls = RX9) (hdg : decode mt.2.1 pc = .ok (.getfield 161, 3)) (q0 : Nat) {a : Nat} {fs : List Value} (he : ws[q0]? = some (a, .inr (1, fs))) {v : Value} (hv : fs[6]? = some v) (K : V D X cells slots (pc + 3) lv (v :: st) ws) : V D X cells slots pc lv (.ref a :: st) ws :=
  v_get (k := 6) (T := TX1) O inW1 rfl (by decide) (by rw [hm]; exact tw_126) rfl hdg q0 he hv K
theorem pf_X9_161 (O : Ok D X mt d kc ks) (hm : mt.1.cls = RX9) (hdg : decode mt.2.1 pc = .ok (.putfield 161, 3)) (q0 : Nat) {a : Nat} {fs fs' : List Value} {x : Int32} (he : ws[q0]? = some (a, .inr (1, fs))) (hlen : 6 < fs.length) (hfs : fs.set 6 (.int x) = fs') {ws' : va_W} (hws : ws.set q0 (a, .inr (1, fs')) = ws') (K : V D X cells slots (pc + 3) lv st ws') : V D X cells slots pc lv (.int x :: .ref a :: st) ws :=
  v_put (k := 6) (T := TX1) (ty := .int) O inW1 tyX1 tyX1_ok nmX1 rfl (by decide) (by rw [hm]; exact tw_126) rfl rfl (by decide +kernel) hdg q0 he rfl rfl hlen hfs hws K
theorem tw_127 : Cond.fieldLink RX1 34 "OneForDog$Camp" "rowLength" "I" ∈ Wd := wd_of 127 (by decide +kernel) (by decide +kernel)
theorem gf_X1_34 (O : Ok D X mt d kc ks) (hm : mt.1.cls = RX1) (hdg : decode mt.2.1 pc = .ok (.getfield 34, 3)) (q0 : Nat) {a : Nat} {fs : List Value} (he : ws[q0]? = some (a, .inr (1, fs))) {v : Value} (hv : fs[7]? = some v) (K : V D X cells slots (pc + 3) lv (v :: st) ws) : V D X cells slots pc lv (.ref a :: st) ws :=
  v_get (k := 7) (T := TX1) O inW1 rfl (by decide) (by rw [hm]; exact tw_127) rfl hdg q0 he hv K
theorem pf_X1_34 (O : Ok D X mt d kc ks) (hm : mt.1.cls = RX1) (hdg : decode mt.2.1 pc = .ok (.putfield 34, 3)) (q0 : Nat) {a : Nat} {fs fs' : List Value} {x : Int32} (he : ws[q0]? = some (a, .inr (1, fs))) (hlen : 7 < fs.length) (hfs : fs.set 7 (.int x) = fs') {ws' : va_W} (hws : ws.set q0 (a, .inr (1, fs')) = ws') (K : V D X cells slots (pc + 3) lv st ws') : V D X cells slots pc lv (.int x :: .ref a :: st) ws :=
  v_put (k := 7) (T := TX1) (ty := .int) O inW1 tyX1 tyX1_ok nmX1 rfl (by decide) (by rw [hm]; exact tw_127) rfl rfl (by decide +kernel) hdg q0 he rfl rfl hlen hfs hws K
theorem tw_128 : Cond.fieldLink RX3 45 "OneForDog$Camp" "rowLength" "I" ∈ Wd := wd_of 128 (by decide +kernel) (by decide +kernel)
theorem gf_X3_45 (O : Ok D X mt d kc ks) (hm : mt.1.cls = RX3) (hdg : decode mt.2.1 pc = .ok (.getfield 45, 3)) (q0 : Nat) {a : Nat} {fs : List Value} (he : ws[q0]? = some (a, .inr (1, fs))) {v : Value} (hv : fs[7]? = some v) (K : V D X cells slots (pc + 3) lv (v :: st) ws) : V D X cells slots pc lv (.ref a :: st) ws :=
  v_get (k := 7) (T := TX1) O inW1 rfl (by decide) (by rw [hm]; exact tw_128) rfl hdg q0 he hv K
theorem tw_129 : Cond.fieldLink RX9 171 "OneForDog$Camp" "rowLength" "I" ∈ Wd := wd_of 129 (by decide +kernel) (by decide +kernel)
theorem gf_X9_171 (O : Ok D X mt d kc ks) (hm : mt.1.cls = RX9) (hdg : decode mt.2.1 pc = .ok (.getfield 171, 3)) (q0 : Nat) {a : Nat} {fs : List Value} (he : ws[q0]? = some (a, .inr (1, fs))) {v : Value} (hv : fs[7]? = some v) (K : V D X cells slots (pc + 3) lv (v :: st) ws) : V D X cells slots pc lv (.ref a :: st) ws :=
  v_get (k := 7) (T := TX1) O inW1 rfl (by decide) (by rw [hm]; exact tw_129) rfl hdg q0 he hv K
theorem pf_X9_171 (O : Ok D X mt d kc ks) (hm : mt.1.cls = RX9) (hdg : decode mt.2.1 pc = .ok (.putfield 171, 3)) (q0 : Nat) {a : Nat} {fs fs' : List Value} {x : Int32} (he : ws[q0]? = some (a, .inr (1, fs))) (hlen : 7 < fs.length) (hfs : fs.set 7 (.int x) = fs') {ws' : va_W} (hws : ws.set q0 (a, .inr (1, fs')) = ws') (K : V D X cells slots (pc + 3) lv st ws') : V D X cells slots pc lv (.int x :: .ref a :: st) ws :=
  v_put (k := 7) (T := TX1) (ty := .int) O inW1 tyX1 tyX1_ok nmX1 rfl (by decide) (by rw [hm]; exact tw_129) rfl rfl (by decide +kernel) hdg q0 he rfl rfl hlen hfs hws K
theorem tw_130 : Cond.fieldLink RX1 37 "OneForDog$Camp" "row" "[I" ∈ Wd := wd_of 130 (by decide +kernel) (by decide +kernel)
theorem gf_X1_37 (O : Ok D X mt d kc ks) (hm : mt.1.cls = RX1) (hdg : decode mt.2.1 pc = .ok (.getfield 37, 3)) (q0 : Nat) {a : Nat} {fs : List Value} (he : ws[q0]? = some (a, .inr (1, fs))) {v : Value} (hv : fs[8]? = some v) (K : V D X cells slots (pc + 3) lv (v :: st) ws) : V D X cells slots pc lv (.ref a :: st) ws :=
  v_get (k := 8) (T := TX1) O inW1 rfl (by decide) (by rw [hm]; exact tw_130) rfl hdg q0 he hv K
theorem pf_X1_37 (O : Ok D X mt d kc ks) (hm : mt.1.cls = RX1) (hini : mt.1.name = "<init>") (hdg : decode mt.2.1 pc = .ok (.putfield 37, 3)) (q0 : Nat) {a : Nat} {fs fs' : List Value} {x : Nat} (he : ws[q0]? = some (a, .inr (1, fs))) (hlen : 8 < fs.length) (hfs : fs.set 8 (.ref x) = fs') {ws' : va_W} (hws : ws.set q0 (a, .inr (1, fs')) = ws') (K : V D X cells slots (pc + 3) lv st ws') : V D X cells slots pc lv (.ref x :: .ref a :: st) ws :=
  v_putF (k := 8) (T := TX1) (ty := .array .int) O inW1 tyX1 tyX1_ok nmX1 rfl (by decide) (by rw [hm]; exact tw_130) rfl rfl hini (by rw [hm]; rfl) (by decide +kernel) hdg q0 he rfl rfl hlen hfs hws K
theorem tw_131 : Cond.fieldLink RX3 60 "OneForDog$Camp" "row" "[I" ∈ Wd := wd_of 131 (by decide +kernel) (by decide +kernel)
theorem gf_X3_60 (O : Ok D X mt d kc ks) (hm : mt.1.cls = RX3) (hdg : decode mt.2.1 pc = .ok (.getfield 60, 3)) (q0 : Nat) {a : Nat} {fs : List Value} (he : ws[q0]? = some (a, .inr (1, fs))) {v : Value} (hv : fs[8]? = some v) (K : V D X cells slots (pc + 3) lv (v :: st) ws) : V D X cells slots pc lv (.ref a :: st) ws :=
  v_get (k := 8) (T := TX1) O inW1 rfl (by decide) (by rw [hm]; exact tw_131) rfl hdg q0 he hv K
theorem tw_132 : Cond.fieldLink RX9 174 "OneForDog$Camp" "row" "[I" ∈ Wd := wd_of 132 (by decide +kernel) (by decide +kernel)
theorem gf_X9_174 (O : Ok D X mt d kc ks) (hm : mt.1.cls = RX9) (hdg : decode mt.2.1 pc = .ok (.getfield 174, 3)) (q0 : Nat) {a : Nat} {fs : List Value} (he : ws[q0]? = some (a, .inr (1, fs))) {v : Value} (hv : fs[8]? = some v) (K : V D X cells slots (pc + 3) lv (v :: st) ws) : V D X cells slots pc lv (.ref a :: st) ws :=
  v_get (k := 8) (T := TX1) O inW1 rfl (by decide) (by rw [hm]; exact tw_132) rfl hdg q0 he hv K
theorem tw_133 : Cond.fieldLink RX1 40 "OneForDog$Camp" "pages" "I" ∈ Wd := wd_of 133 (by decide +kernel) (by decide +kernel)
theorem gf_X1_40 (O : Ok D X mt d kc ks) (hm : mt.1.cls = RX1) (hdg : decode mt.2.1 pc = .ok (.getfield 40, 3)) (q0 : Nat) {a : Nat} {fs : List Value} (he : ws[q0]? = some (a, .inr (1, fs))) {v : Value} (hv : fs[9]? = some v) (K : V D X cells slots (pc + 3) lv (v :: st) ws) : V D X cells slots pc lv (.ref a :: st) ws :=
  v_get (k := 9) (T := TX1) O inW1 rfl (by decide) (by rw [hm]; exact tw_133) rfl hdg q0 he hv K
theorem pf_X1_40 (O : Ok D X mt d kc ks) (hm : mt.1.cls = RX1) (hdg : decode mt.2.1 pc = .ok (.putfield 40, 3)) (q0 : Nat) {a : Nat} {fs fs' : List Value} {x : Int32} (he : ws[q0]? = some (a, .inr (1, fs))) (hlen : 9 < fs.length) (hfs : fs.set 9 (.int x) = fs') {ws' : va_W} (hws : ws.set q0 (a, .inr (1, fs')) = ws') (K : V D X cells slots (pc + 3) lv st ws') : V D X cells slots pc lv (.int x :: .ref a :: st) ws :=
  v_put (k := 9) (T := TX1) (ty := .int) O inW1 tyX1 tyX1_ok nmX1 rfl (by decide) (by rw [hm]; exact tw_133) rfl rfl (by decide +kernel) hdg q0 he rfl rfl hlen hfs hws K
theorem tw_134 : Cond.fieldLink RX9 233 "OneForDog$Camp" "pages" "I" ∈ Wd := wd_of 134 (by decide +kernel) (by decide +kernel)
theorem gf_X9_233 (O : Ok D X mt d kc ks) (hm : mt.1.cls = RX9) (hdg : decode mt.2.1 pc = .ok (.getfield 233, 3)) (q0 : Nat) {a : Nat} {fs : List Value} (he : ws[q0]? = some (a, .inr (1, fs))) {v : Value} (hv : fs[9]? = some v) (K : V D X cells slots (pc + 3) lv (v :: st) ws) : V D X cells slots pc lv (.ref a :: st) ws :=
  v_get (k := 9) (T := TX1) O inW1 rfl (by decide) (by rw [hm]; exact tw_134) rfl hdg q0 he hv K
theorem pf_X9_233 (O : Ok D X mt d kc ks) (hm : mt.1.cls = RX9) (hdg : decode mt.2.1 pc = .ok (.putfield 233, 3)) (q0 : Nat) {a : Nat} {fs fs' : List Value} {x : Int32} (he : ws[q0]? = some (a, .inr (1, fs))) (hlen : 9 < fs.length) (hfs : fs.set 9 (.int x) = fs') {ws' : va_W} (hws : ws.set q0 (a, .inr (1, fs')) = ws') (K : V D X cells slots (pc + 3) lv st ws') : V D X cells slots pc lv (.int x :: .ref a :: st) ws :=
  v_put (k := 9) (T := TX1) (ty := .int) O inW1 tyX1 tyX1_ok nmX1 rfl (by decide) (by rw [hm]; exact tw_134) rfl rfl (by decide +kernel) hdg q0 he rfl rfl hlen hfs hws K
theorem tw_135 : Cond.fieldLink RX1 43 "OneForDog$Camp" "book" "[I" ∈ Wd := wd_of 135 (by decide +kernel) (by decide +kernel)
theorem gf_X1_43 (O : Ok D X mt d kc ks) (hm : mt.1.cls = RX1) (hdg : decode mt.2.1 pc = .ok (.getfield 43, 3)) (q0 : Nat) {a : Nat} {fs : List Value} (he : ws[q0]? = some (a, .inr (1, fs))) {v : Value} (hv : fs[10]? = some v) (K : V D X cells slots (pc + 3) lv (v :: st) ws) : V D X cells slots pc lv (.ref a :: st) ws :=
  v_get (k := 10) (T := TX1) O inW1 rfl (by decide) (by rw [hm]; exact tw_135) rfl hdg q0 he hv K
theorem pf_X1_43 (O : Ok D X mt d kc ks) (hm : mt.1.cls = RX1) (hini : mt.1.name = "<init>") (hdg : decode mt.2.1 pc = .ok (.putfield 43, 3)) (q0 : Nat) {a : Nat} {fs fs' : List Value} {x : Nat} (he : ws[q0]? = some (a, .inr (1, fs))) (hlen : 10 < fs.length) (hfs : fs.set 10 (.ref x) = fs') {ws' : va_W} (hws : ws.set q0 (a, .inr (1, fs')) = ws') (K : V D X cells slots (pc + 3) lv st ws') : V D X cells slots pc lv (.ref x :: .ref a :: st) ws :=
  v_putF (k := 10) (T := TX1) (ty := .array .int) O inW1 tyX1 tyX1_ok nmX1 rfl (by decide) (by rw [hm]; exact tw_135) rfl rfl hini (by rw [hm]; rfl) (by decide +kernel) hdg q0 he rfl rfl hlen hfs hws K
theorem tw_136 : Cond.fieldLink RX9 236 "OneForDog$Camp" "book" "[I" ∈ Wd := wd_of 136 (by decide +kernel) (by decide +kernel)
theorem gf_X9_236 (O : Ok D X mt d kc ks) (hm : mt.1.cls = RX9) (hdg : decode mt.2.1 pc = .ok (.getfield 236, 3)) (q0 : Nat) {a : Nat} {fs : List Value} (he : ws[q0]? = some (a, .inr (1, fs))) {v : Value} (hv : fs[10]? = some v) (K : V D X cells slots (pc + 3) lv (v :: st) ws) : V D X cells slots pc lv (.ref a :: st) ws :=
  v_get (k := 10) (T := TX1) O inW1 rfl (by decide) (by rw [hm]; exact tw_136) rfl hdg q0 he hv K
theorem tw_137 : Cond.fieldLink RX1 46 "OneForDog$Camp" "held" "I" ∈ Wd := wd_of 137 (by decide +kernel) (by decide +kernel)
theorem gf_X1_46 (O : Ok D X mt d kc ks) (hm : mt.1.cls = RX1) (hdg : decode mt.2.1 pc = .ok (.getfield 46, 3)) (q0 : Nat) {a : Nat} {fs : List Value} (he : ws[q0]? = some (a, .inr (1, fs))) {v : Value} (hv : fs[11]? = some v) (K : V D X cells slots (pc + 3) lv (v :: st) ws) : V D X cells slots pc lv (.ref a :: st) ws :=
  v_get (k := 11) (T := TX1) O inW1 rfl (by decide) (by rw [hm]; exact tw_137) rfl hdg q0 he hv K
theorem pf_X1_46 (O : Ok D X mt d kc ks) (hm : mt.1.cls = RX1) (hdg : decode mt.2.1 pc = .ok (.putfield 46, 3)) (q0 : Nat) {a : Nat} {fs fs' : List Value} {x : Int32} (he : ws[q0]? = some (a, .inr (1, fs))) (hlen : 11 < fs.length) (hfs : fs.set 11 (.int x) = fs') {ws' : va_W} (hws : ws.set q0 (a, .inr (1, fs')) = ws') (K : V D X cells slots (pc + 3) lv st ws') : V D X cells slots pc lv (.int x :: .ref a :: st) ws :=
  v_put (k := 11) (T := TX1) (ty := .int) O inW1 tyX1 tyX1_ok nmX1 rfl (by decide) (by rw [hm]; exact tw_137) rfl rfl (by decide +kernel) hdg q0 he rfl rfl hlen hfs hws K
theorem tw_138 : Cond.fieldLink RX9 145 "OneForDog$Camp" "held" "I" ∈ Wd := wd_of 138 (by decide +kernel) (by decide +kernel)
theorem gf_X9_145 (O : Ok D X mt d kc ks) (hm : mt.1.cls = RX9) (hdg : decode mt.2.1 pc = .ok (.getfield 145, 3)) (q0 : Nat) {a : Nat} {fs : List Value} (he : ws[q0]? = some (a, .inr (1, fs))) {v : Value} (hv : fs[11]? = some v) (K : V D X cells slots (pc + 3) lv (v :: st) ws) : V D X cells slots pc lv (.ref a :: st) ws :=
  v_get (k := 11) (T := TX1) O inW1 rfl (by decide) (by rw [hm]; exact tw_138) rfl hdg q0 he hv K
theorem pf_X9_145 (O : Ok D X mt d kc ks) (hm : mt.1.cls = RX9) (hdg : decode mt.2.1 pc = .ok (.putfield 145, 3)) (q0 : Nat) {a : Nat} {fs fs' : List Value} {x : Int32} (he : ws[q0]? = some (a, .inr (1, fs))) (hlen : 11 < fs.length) (hfs : fs.set 11 (.int x) = fs') {ws' : va_W} (hws : ws.set q0 (a, .inr (1, fs')) = ws') (K : V D X cells slots (pc + 3) lv st ws') : V D X cells slots pc lv (.int x :: .ref a :: st) ws :=
  v_put (k := 11) (T := TX1) (ty := .int) O inW1 tyX1 tyX1_ok nmX1 rfl (by decide) (by rw [hm]; exact tw_138) rfl rfl (by decide +kernel) hdg q0 he rfl rfl hlen hfs hws K
theorem tw_171 : Cond.fieldLink RX7 9 "OneForDog$VillageText" "signs" "[B" ∈ Wd := wd_of 171 (by decide +kernel) (by decide +kernel)
theorem gf_X7_9 (O : Ok D X mt d kc ks) (hm : mt.1.cls = RX7) (hdg : decode mt.2.1 pc = .ok (.getfield 9, 3)) (q0 : Nat) {a : Nat} {fs : List Value} (he : ws[q0]? = some (a, .inr (7, fs))) {v : Value} (hv : fs[0]? = some v) (K : V D X cells slots (pc + 3) lv (v :: st) ws) : V D X cells slots pc lv (.ref a :: st) ws :=
  v_get (k := 0) (T := TX7) O inW7 rfl (by decide) (by rw [hm]; exact tw_171) rfl hdg q0 he hv K
theorem pf_X7_9 (O : Ok D X mt d kc ks) (hm : mt.1.cls = RX7) (hini : mt.1.name = "<init>") (hdg : decode mt.2.1 pc = .ok (.putfield 9, 3)) (q0 : Nat) {a : Nat} {fs fs' : List Value} {x : Nat} (he : ws[q0]? = some (a, .inr (7, fs))) (hlen : 0 < fs.length) (hfs : fs.set 0 (.ref x) = fs') {ws' : va_W} (hws : ws.set q0 (a, .inr (7, fs')) = ws') (K : V D X cells slots (pc + 3) lv st ws') : V D X cells slots pc lv (.ref x :: .ref a :: st) ws :=
  v_putF (k := 0) (T := TX7) (ty := .array .byte) O inW7 tyX7 tyX7_ok nmX7 rfl (by decide) (by rw [hm]; exact tw_171) rfl rfl hini (by rw [hm]; rfl) (by decide +kernel) hdg q0 he rfl rfl hlen hfs hws K
theorem tw_172 : Cond.fieldLink RX7 15 "OneForDog$VillageText" "length" "I" ∈ Wd := wd_of 172 (by decide +kernel) (by decide +kernel)
theorem gf_X7_15 (O : Ok D X mt d kc ks) (hm : mt.1.cls = RX7) (hdg : decode mt.2.1 pc = .ok (.getfield 15, 3)) (q0 : Nat) {a : Nat} {fs : List Value} (he : ws[q0]? = some (a, .inr (7, fs))) {v : Value} (hv : fs[1]? = some v) (K : V D X cells slots (pc + 3) lv (v :: st) ws) : V D X cells slots pc lv (.ref a :: st) ws :=
  v_get (k := 1) (T := TX7) O inW7 rfl (by decide) (by rw [hm]; exact tw_172) rfl hdg q0 he hv K
theorem pf_X7_15 (O : Ok D X mt d kc ks) (hm : mt.1.cls = RX7) (hdg : decode mt.2.1 pc = .ok (.putfield 15, 3)) (q0 : Nat) {a : Nat} {fs fs' : List Value} {x : Int32} (he : ws[q0]? = some (a, .inr (7, fs))) (hlen : 1 < fs.length) (hfs : fs.set 1 (.int x) = fs') {ws' : va_W} (hws : ws.set q0 (a, .inr (7, fs')) = ws') (K : V D X cells slots (pc + 3) lv st ws') : V D X cells slots pc lv (.int x :: .ref a :: st) ws :=
  v_put (k := 1) (T := TX7) (ty := .int) O inW7 tyX7 tyX7_ok nmX7 rfl (by decide) (by rw [hm]; exact tw_172) rfl rfl (by decide +kernel) hdg q0 he rfl rfl hlen hfs hws K
theorem tw_173 : Cond.fieldLink RX7 19 "OneForDog$VillageText" "place" "I" ∈ Wd := wd_of 173 (by decide +kernel) (by decide +kernel)
theorem gf_X7_19 (O : Ok D X mt d kc ks) (hm : mt.1.cls = RX7) (hdg : decode mt.2.1 pc = .ok (.getfield 19, 3)) (q0 : Nat) {a : Nat} {fs : List Value} (he : ws[q0]? = some (a, .inr (7, fs))) {v : Value} (hv : fs[2]? = some v) (K : V D X cells slots (pc + 3) lv (v :: st) ws) : V D X cells slots pc lv (.ref a :: st) ws :=
  v_get (k := 2) (T := TX7) O inW7 rfl (by decide) (by rw [hm]; exact tw_173) rfl hdg q0 he hv K
theorem pf_X7_19 (O : Ok D X mt d kc ks) (hm : mt.1.cls = RX7) (hdg : decode mt.2.1 pc = .ok (.putfield 19, 3)) (q0 : Nat) {a : Nat} {fs fs' : List Value} {x : Int32} (he : ws[q0]? = some (a, .inr (7, fs))) (hlen : 2 < fs.length) (hfs : fs.set 2 (.int x) = fs') {ws' : va_W} (hws : ws.set q0 (a, .inr (7, fs')) = ws') (K : V D X cells slots (pc + 3) lv st ws') : V D X cells slots pc lv (.int x :: .ref a :: st) ws :=
  v_put (k := 2) (T := TX7) (ty := .int) O inW7 tyX7 tyX7_ok nmX7 rfl (by decide) (by rw [hm]; exact tw_173) rfl rfl (by decide +kernel) hdg q0 he rfl rfl hlen hfs hws K
theorem tw_174 : Cond.fieldLink RX7 22 "OneForDog$VillageText" "sign" "I" ∈ Wd := wd_of 174 (by decide +kernel) (by decide +kernel)
theorem gf_X7_22 (O : Ok D X mt d kc ks) (hm : mt.1.cls = RX7) (hdg : decode mt.2.1 pc = .ok (.getfield 22, 3)) (q0 : Nat) {a : Nat} {fs : List Value} (he : ws[q0]? = some (a, .inr (7, fs))) {v : Value} (hv : fs[3]? = some v) (K : V D X cells slots (pc + 3) lv (v :: st) ws) : V D X cells slots pc lv (.ref a :: st) ws :=
  v_get (k := 3) (T := TX7) O inW7 rfl (by decide) (by rw [hm]; exact tw_174) rfl hdg q0 he hv K
theorem pf_X7_22 (O : Ok D X mt d kc ks) (hm : mt.1.cls = RX7) (hdg : decode mt.2.1 pc = .ok (.putfield 22, 3)) (q0 : Nat) {a : Nat} {fs fs' : List Value} {x : Int32} (he : ws[q0]? = some (a, .inr (7, fs))) (hlen : 3 < fs.length) (hfs : fs.set 3 (.int x) = fs') {ws' : va_W} (hws : ws.set q0 (a, .inr (7, fs')) = ws') (K : V D X cells slots (pc + 3) lv st ws') : V D X cells slots pc lv (.int x :: .ref a :: st) ws :=
  v_put (k := 3) (T := TX7) (ty := .int) O inW7 tyX7 tyX7_ok nmX7 rfl (by decide) (by rw [hm]; exact tw_174) rfl rfl (by decide +kernel) hdg q0 he rfl rfl hlen hfs hws K
theorem tw_191 : Cond.fieldLink RX6 9 "OneForDog$Village" "shares" "I" ∈ Wd := wd_of 191 (by decide +kernel) (by decide +kernel)
theorem pf_X6_9 (O : Ok D X mt d kc ks) (hm : mt.1.cls = RX6) (hdg : decode mt.2.1 pc = .ok (.putfield 9, 3)) (q0 : Nat) {a : Nat} {fs fs' : List Value} {x : Int32} (he : ws[q0]? = some (a, .inr (6, fs))) (hlen : 0 < fs.length) (hfs : fs.set 0 (.int x) = fs') {ws' : va_W} (hws : ws.set q0 (a, .inr (6, fs')) = ws') (K : V D X cells slots (pc + 3) lv st ws') : V D X cells slots pc lv (.int x :: .ref a :: st) ws :=
  v_put (k := 0) (T := TX6) (ty := .int) O inW6 tyX6 tyX6_ok nmX6 rfl (by decide) (by rw [hm]; exact tw_191) rfl rfl (by decide +kernel) hdg q0 he rfl rfl hlen hfs hws K
theorem tw_192 : Cond.fieldLink RX3 41 "OneForDog$Village" "shares" "I" ∈ Wd := wd_of 192 (by decide +kernel) (by decide +kernel)
theorem gf_X3_41 (O : Ok D X mt d kc ks) (hm : mt.1.cls = RX3) (hdg : decode mt.2.1 pc = .ok (.getfield 41, 3)) (q0 : Nat) {a : Nat} {fs : List Value} (he : ws[q0]? = some (a, .inr (6, fs))) {v : Value} (hv : fs[0]? = some v) (K : V D X cells slots (pc + 3) lv (v :: st) ws) : V D X cells slots pc lv (.ref a :: st) ws :=
  v_get (k := 0) (T := TX6) O inW6 rfl (by decide) (by rw [hm]; exact tw_192) rfl hdg q0 he hv K
theorem tw_193 : Cond.fieldLink RX8 52 "OneForDog$Village" "shares" "I" ∈ Wd := wd_of 193 (by decide +kernel) (by decide +kernel)
theorem gf_X8_52 (O : Ok D X mt d kc ks) (hm : mt.1.cls = RX8) (hdg : decode mt.2.1 pc = .ok (.getfield 52, 3)) (q0 : Nat) {a : Nat} {fs : List Value} (he : ws[q0]? = some (a, .inr (6, fs))) {v : Value} (hv : fs[0]? = some v) (K : V D X cells slots (pc + 3) lv (v :: st) ws) : V D X cells slots pc lv (.ref a :: st) ws :=
  v_get (k := 0) (T := TX6) O inW6 rfl (by decide) (by rw [hm]; exact tw_193) rfl hdg q0 he hv K
theorem tw_194 : Cond.fieldLink RX9 152 "OneForDog$Village" "shares" "I" ∈ Wd := wd_of 194 (by decide +kernel) (by decide +kernel)
theorem gf_X9_152 (O : Ok D X mt d kc ks) (hm : mt.1.cls = RX9) (hdg : decode mt.2.1 pc = .ok (.getfield 152, 3)) (q0 : Nat) {a : Nat} {fs : List Value} (he : ws[q0]? = some (a, .inr (6, fs))) {v : Value} (hv : fs[0]? = some v) (K : V D X cells slots (pc + 3) lv (v :: st) ws) : V D X cells slots pc lv (.ref a :: st) ws :=
  v_get (k := 0) (T := TX6) O inW6 rfl (by decide) (by rw [hm]; exact tw_194) rfl hdg q0 he hv K
theorem tw_195 : Cond.fieldLink RX6 15 "OneForDog$Village" "morning" "I" ∈ Wd := wd_of 195 (by decide +kernel) (by decide +kernel)
theorem pf_X6_15 (O : Ok D X mt d kc ks) (hm : mt.1.cls = RX6) (hdg : decode mt.2.1 pc = .ok (.putfield 15, 3)) (q0 : Nat) {a : Nat} {fs fs' : List Value} {x : Int32} (he : ws[q0]? = some (a, .inr (6, fs))) (hlen : 1 < fs.length) (hfs : fs.set 1 (.int x) = fs') {ws' : va_W} (hws : ws.set q0 (a, .inr (6, fs')) = ws') (K : V D X cells slots (pc + 3) lv st ws') : V D X cells slots pc lv (.int x :: .ref a :: st) ws :=
  v_put (k := 1) (T := TX6) (ty := .int) O inW6 tyX6 tyX6_ok nmX6 rfl (by decide) (by rw [hm]; exact tw_195) rfl rfl (by decide +kernel) hdg q0 he rfl rfl hlen hfs hws K
theorem tw_196 : Cond.fieldLink RX3 44 "OneForDog$Village" "morning" "I" ∈ Wd := wd_of 196 (by decide +kernel) (by decide +kernel)
theorem gf_X3_44 (O : Ok D X mt d kc ks) (hm : mt.1.cls = RX3) (hdg : decode mt.2.1 pc = .ok (.getfield 44, 3)) (q0 : Nat) {a : Nat} {fs : List Value} (he : ws[q0]? = some (a, .inr (6, fs))) {v : Value} (hv : fs[1]? = some v) (K : V D X cells slots (pc + 3) lv (v :: st) ws) : V D X cells slots pc lv (.ref a :: st) ws :=
  v_get (k := 1) (T := TX6) O inW6 rfl (by decide) (by rw [hm]; exact tw_196) rfl hdg q0 he hv K
theorem tw_197 : Cond.fieldLink RX7 48 "OneForDog$Village" "morning" "I" ∈ Wd := wd_of 197 (by decide +kernel) (by decide +kernel)
theorem pf_X7_48 (O : Ok D X mt d kc ks) (hm : mt.1.cls = RX7) (hdg : decode mt.2.1 pc = .ok (.putfield 48, 3)) (q0 : Nat) {a : Nat} {fs fs' : List Value} {x : Int32} (he : ws[q0]? = some (a, .inr (6, fs))) (hlen : 1 < fs.length) (hfs : fs.set 1 (.int x) = fs') {ws' : va_W} (hws : ws.set q0 (a, .inr (6, fs')) = ws') (K : V D X cells slots (pc + 3) lv st ws') : V D X cells slots pc lv (.int x :: .ref a :: st) ws :=
  v_put (k := 1) (T := TX6) (ty := .int) O inW6 tyX6 tyX6_ok nmX6 rfl (by decide) (by rw [hm]; exact tw_197) rfl rfl (by decide +kernel) hdg q0 he rfl rfl hlen hfs hws K
theorem tw_198 : Cond.fieldLink RX9 155 "OneForDog$Village" "morning" "I" ∈ Wd := wd_of 198 (by decide +kernel) (by decide +kernel)
theorem gf_X9_155 (O : Ok D X mt d kc ks) (hm : mt.1.cls = RX9) (hdg : decode mt.2.1 pc = .ok (.getfield 155, 3)) (q0 : Nat) {a : Nat} {fs : List Value} (he : ws[q0]? = some (a, .inr (6, fs))) {v : Value} (hv : fs[1]? = some v) (K : V D X cells slots (pc + 3) lv (v :: st) ws) : V D X cells slots pc lv (.ref a :: st) ws :=
  v_get (k := 1) (T := TX6) O inW6 rfl (by decide) (by rw [hm]; exact tw_198) rfl hdg q0 he hv K
theorem tw_199 : Cond.fieldLink RX6 18 "OneForDog$Village" "overs" "I" ∈ Wd := wd_of 199 (by decide +kernel) (by decide +kernel)
theorem gf_X6_18 (O : Ok D X mt d kc ks) (hm : mt.1.cls = RX6) (hdg : decode mt.2.1 pc = .ok (.getfield 18, 3)) (q0 : Nat) {a : Nat} {fs : List Value} (he : ws[q0]? = some (a, .inr (6, fs))) {v : Value} (hv : fs[2]? = some v) (K : V D X cells slots (pc + 3) lv (v :: st) ws) : V D X cells slots pc lv (.ref a :: st) ws :=
  v_get (k := 2) (T := TX6) O inW6 rfl (by decide) (by rw [hm]; exact tw_199) rfl hdg q0 he hv K
theorem pf_X6_18 (O : Ok D X mt d kc ks) (hm : mt.1.cls = RX6) (hdg : decode mt.2.1 pc = .ok (.putfield 18, 3)) (q0 : Nat) {a : Nat} {fs fs' : List Value} {x : Int32} (he : ws[q0]? = some (a, .inr (6, fs))) (hlen : 2 < fs.length) (hfs : fs.set 2 (.int x) = fs') {ws' : va_W} (hws : ws.set q0 (a, .inr (6, fs')) = ws') (K : V D X cells slots (pc + 3) lv st ws') : V D X cells slots pc lv (.int x :: .ref a :: st) ws :=
  v_put (k := 2) (T := TX6) (ty := .int) O inW6 tyX6 tyX6_ok nmX6 rfl (by decide) (by rw [hm]; exact tw_199) rfl rfl (by decide +kernel) hdg q0 he rfl rfl hlen hfs hws K
theorem tw_200 : Cond.fieldLink RX6 21 "OneForDog$Village" "rules" "I" ∈ Wd := wd_of 200 (by decide +kernel) (by decide +kernel)
theorem gf_X6_21 (O : Ok D X mt d kc ks) (hm : mt.1.cls = RX6) (hdg : decode mt.2.1 pc = .ok (.getfield 21, 3)) (q0 : Nat) {a : Nat} {fs : List Value} (he : ws[q0]? = some (a, .inr (6, fs))) {v : Value} (hv : fs[3]? = some v) (K : V D X cells slots (pc + 3) lv (v :: st) ws) : V D X cells slots pc lv (.ref a :: st) ws :=
  v_get (k := 3) (T := TX6) O inW6 rfl (by decide) (by rw [hm]; exact tw_200) rfl hdg q0 he hv K
theorem pf_X6_21 (O : Ok D X mt d kc ks) (hm : mt.1.cls = RX6) (hdg : decode mt.2.1 pc = .ok (.putfield 21, 3)) (q0 : Nat) {a : Nat} {fs fs' : List Value} {x : Int32} (he : ws[q0]? = some (a, .inr (6, fs))) (hlen : 3 < fs.length) (hfs : fs.set 3 (.int x) = fs') {ws' : va_W} (hws : ws.set q0 (a, .inr (6, fs')) = ws') (K : V D X cells slots (pc + 3) lv st ws') : V D X cells slots pc lv (.int x :: .ref a :: st) ws :=
  v_put (k := 3) (T := TX6) (ty := .int) O inW6 tyX6 tyX6_ok nmX6 rfl (by decide) (by rw [hm]; exact tw_200) rfl rfl (by decide +kernel) hdg q0 he rfl rfl hlen hfs hws K
theorem tw_201 : Cond.fieldLink RX6 24 "OneForDog$Village" "isOver" "[Z" ∈ Wd := wd_of 201 (by decide +kernel) (by decide +kernel)
theorem gf_X6_24 (O : Ok D X mt d kc ks) (hm : mt.1.cls = RX6) (hdg : decode mt.2.1 pc = .ok (.getfield 24, 3)) (q0 : Nat) {a : Nat} {fs : List Value} (he : ws[q0]? = some (a, .inr (6, fs))) {v : Value} (hv : fs[4]? = some v) (K : V D X cells slots (pc + 3) lv (v :: st) ws) : V D X cells slots pc lv (.ref a :: st) ws :=
  v_get (k := 4) (T := TX6) O inW6 rfl (by decide) (by rw [hm]; exact tw_201) rfl hdg q0 he hv K
theorem pf_X6_24 (O : Ok D X mt d kc ks) (hm : mt.1.cls = RX6) (hini : mt.1.name = "<init>") (hdg : decode mt.2.1 pc = .ok (.putfield 24, 3)) (q0 : Nat) {a : Nat} {fs fs' : List Value} {x : Nat} (he : ws[q0]? = some (a, .inr (6, fs))) (hlen : 4 < fs.length) (hfs : fs.set 4 (.ref x) = fs') {ws' : va_W} (hws : ws.set q0 (a, .inr (6, fs')) = ws') (K : V D X cells slots (pc + 3) lv st ws') : V D X cells slots pc lv (.ref x :: .ref a :: st) ws :=
  v_putF (k := 4) (T := TX6) (ty := .array .boolean) O inW6 tyX6 tyX6_ok nmX6 rfl (by decide) (by rw [hm]; exact tw_201) rfl rfl hini (by rw [hm]; rfl) (by decide +kernel) hdg q0 he rfl rfl hlen hfs hws K
theorem tw_202 : Cond.fieldLink RX6 28 "OneForDog$Village" "amounts" "[I" ∈ Wd := wd_of 202 (by decide +kernel) (by decide +kernel)
theorem gf_X6_28 (O : Ok D X mt d kc ks) (hm : mt.1.cls = RX6) (hdg : decode mt.2.1 pc = .ok (.getfield 28, 3)) (q0 : Nat) {a : Nat} {fs : List Value} (he : ws[q0]? = some (a, .inr (6, fs))) {v : Value} (hv : fs[5]? = some v) (K : V D X cells slots (pc + 3) lv (v :: st) ws) : V D X cells slots pc lv (.ref a :: st) ws :=
  v_get (k := 5) (T := TX6) O inW6 rfl (by decide) (by rw [hm]; exact tw_202) rfl hdg q0 he hv K
theorem pf_X6_28 (O : Ok D X mt d kc ks) (hm : mt.1.cls = RX6) (hini : mt.1.name = "<init>") (hdg : decode mt.2.1 pc = .ok (.putfield 28, 3)) (q0 : Nat) {a : Nat} {fs fs' : List Value} {x : Nat} (he : ws[q0]? = some (a, .inr (6, fs))) (hlen : 5 < fs.length) (hfs : fs.set 5 (.ref x) = fs') {ws' : va_W} (hws : ws.set q0 (a, .inr (6, fs')) = ws') (K : V D X cells slots (pc + 3) lv st ws') : V D X cells slots pc lv (.ref x :: .ref a :: st) ws :=
  v_putF (k := 5) (T := TX6) (ty := .array .int) O inW6 tyX6 tyX6_ok nmX6 rfl (by decide) (by rw [hm]; exact tw_202) rfl rfl hini (by rw [hm]; rfl) (by decide +kernel) hdg q0 he rfl rfl hlen hfs hws K
theorem tw_203 : Cond.fieldLink RX6 32 "OneForDog$Village" "ends" "[I" ∈ Wd := wd_of 203 (by decide +kernel) (by decide +kernel)
theorem gf_X6_32 (O : Ok D X mt d kc ks) (hm : mt.1.cls = RX6) (hdg : decode mt.2.1 pc = .ok (.getfield 32, 3)) (q0 : Nat) {a : Nat} {fs : List Value} (he : ws[q0]? = some (a, .inr (6, fs))) {v : Value} (hv : fs[6]? = some v) (K : V D X cells slots (pc + 3) lv (v :: st) ws) : V D X cells slots pc lv (.ref a :: st) ws :=
  v_get (k := 6) (T := TX6) O inW6 rfl (by decide) (by rw [hm]; exact tw_203) rfl hdg q0 he hv K
theorem pf_X6_32 (O : Ok D X mt d kc ks) (hm : mt.1.cls = RX6) (hini : mt.1.name = "<init>") (hdg : decode mt.2.1 pc = .ok (.putfield 32, 3)) (q0 : Nat) {a : Nat} {fs fs' : List Value} {x : Nat} (he : ws[q0]? = some (a, .inr (6, fs))) (hlen : 6 < fs.length) (hfs : fs.set 6 (.ref x) = fs') {ws' : va_W} (hws : ws.set q0 (a, .inr (6, fs')) = ws') (K : V D X cells slots (pc + 3) lv st ws') : V D X cells slots pc lv (.ref x :: .ref a :: st) ws :=
  v_putF (k := 6) (T := TX6) (ty := .array .int) O inW6 tyX6 tyX6_ok nmX6 rfl (by decide) (by rw [hm]; exact tw_203) rfl rfl hini (by rw [hm]; rfl) (by decide +kernel) hdg q0 he rfl rfl hlen hfs hws K
theorem tw_204 : Cond.fieldLink RX6 35 "OneForDog$Village" "length" "I" ∈ Wd := wd_of 204 (by decide +kernel) (by decide +kernel)
theorem gf_X6_35 (O : Ok D X mt d kc ks) (hm : mt.1.cls = RX6) (hdg : decode mt.2.1 pc = .ok (.getfield 35, 3)) (q0 : Nat) {a : Nat} {fs : List Value} (he : ws[q0]? = some (a, .inr (6, fs))) {v : Value} (hv : fs[7]? = some v) (K : V D X cells slots (pc + 3) lv (v :: st) ws) : V D X cells slots pc lv (.ref a :: st) ws :=
  v_get (k := 7) (T := TX6) O inW6 rfl (by decide) (by rw [hm]; exact tw_204) rfl hdg q0 he hv K
theorem pf_X6_35 (O : Ok D X mt d kc ks) (hm : mt.1.cls = RX6) (hdg : decode mt.2.1 pc = .ok (.putfield 35, 3)) (q0 : Nat) {a : Nat} {fs fs' : List Value} {x : Int32} (he : ws[q0]? = some (a, .inr (6, fs))) (hlen : 7 < fs.length) (hfs : fs.set 7 (.int x) = fs') {ws' : va_W} (hws : ws.set q0 (a, .inr (6, fs')) = ws') (K : V D X cells slots (pc + 3) lv st ws') : V D X cells slots pc lv (.int x :: .ref a :: st) ws :=
  v_put (k := 7) (T := TX6) (ty := .int) O inW6 tyX6 tyX6_ok nmX6 rfl (by decide) (by rw [hm]; exact tw_204) rfl rfl (by decide +kernel) hdg q0 he rfl rfl hlen hfs hws K
theorem tw_205 : Cond.fieldLink RX6 38 "OneForDog$Village" "steps" "[I" ∈ Wd := wd_of 205 (by decide +kernel) (by decide +kernel)
theorem gf_X6_38 (O : Ok D X mt d kc ks) (hm : mt.1.cls = RX6) (hdg : decode mt.2.1 pc = .ok (.getfield 38, 3)) (q0 : Nat) {a : Nat} {fs : List Value} (he : ws[q0]? = some (a, .inr (6, fs))) {v : Value} (hv : fs[8]? = some v) (K : V D X cells slots (pc + 3) lv (v :: st) ws) : V D X cells slots pc lv (.ref a :: st) ws :=
  v_get (k := 8) (T := TX6) O inW6 rfl (by decide) (by rw [hm]; exact tw_205) rfl hdg q0 he hv K
theorem pf_X6_38 (O : Ok D X mt d kc ks) (hm : mt.1.cls = RX6) (hini : mt.1.name = "<init>") (hdg : decode mt.2.1 pc = .ok (.putfield 38, 3)) (q0 : Nat) {a : Nat} {fs fs' : List Value} {x : Nat} (he : ws[q0]? = some (a, .inr (6, fs))) (hlen : 8 < fs.length) (hfs : fs.set 8 (.ref x) = fs') {ws' : va_W} (hws : ws.set q0 (a, .inr (6, fs')) = ws') (K : V D X cells slots (pc + 3) lv st ws') : V D X cells slots pc lv (.ref x :: .ref a :: st) ws :=
  v_putF (k := 8) (T := TX6) (ty := .array .int) O inW6 tyX6 tyX6_ok nmX6 rfl (by decide) (by rw [hm]; exact tw_205) rfl rfl hini (by rw [hm]; rfl) (by decide +kernel) hdg q0 he rfl rfl hlen hfs hws K
theorem tw_233 : Cond.fieldLink RX8 9 "OneForDog$Wakings" "kinds" "[I" ∈ Wd := wd_of 233 (by decide +kernel) (by decide +kernel)
theorem gf_X8_9 (O : Ok D X mt d kc ks) (hm : mt.1.cls = RX8) (hdg : decode mt.2.1 pc = .ok (.getfield 9, 3)) (q0 : Nat) {a : Nat} {fs : List Value} (he : ws[q0]? = some (a, .inr (8, fs))) {v : Value} (hv : fs[0]? = some v) (K : V D X cells slots (pc + 3) lv (v :: st) ws) : V D X cells slots pc lv (.ref a :: st) ws :=
  v_get (k := 0) (T := TX8) O inW8 rfl (by decide) (by rw [hm]; exact tw_233) rfl hdg q0 he hv K
theorem pf_X8_9 (O : Ok D X mt d kc ks) (hm : mt.1.cls = RX8) (hini : mt.1.name = "<init>") (hdg : decode mt.2.1 pc = .ok (.putfield 9, 3)) (q0 : Nat) {a : Nat} {fs fs' : List Value} {x : Nat} (he : ws[q0]? = some (a, .inr (8, fs))) (hlen : 0 < fs.length) (hfs : fs.set 0 (.ref x) = fs') {ws' : va_W} (hws : ws.set q0 (a, .inr (8, fs')) = ws') (K : V D X cells slots (pc + 3) lv st ws') : V D X cells slots pc lv (.ref x :: .ref a :: st) ws :=
  v_putF (k := 0) (T := TX8) (ty := .array .int) O inW8 tyX8 tyX8_ok nmX8 rfl (by decide) (by rw [hm]; exact tw_233) rfl rfl hini (by rw [hm]; rfl) (by decide +kernel) hdg q0 he rfl rfl hlen hfs hws K
theorem tw_234 : Cond.fieldLink RX8 15 "OneForDog$Wakings" "values" "[I" ∈ Wd := wd_of 234 (by decide +kernel) (by decide +kernel)
theorem gf_X8_15 (O : Ok D X mt d kc ks) (hm : mt.1.cls = RX8) (hdg : decode mt.2.1 pc = .ok (.getfield 15, 3)) (q0 : Nat) {a : Nat} {fs : List Value} (he : ws[q0]? = some (a, .inr (8, fs))) {v : Value} (hv : fs[1]? = some v) (K : V D X cells slots (pc + 3) lv (v :: st) ws) : V D X cells slots pc lv (.ref a :: st) ws :=
  v_get (k := 1) (T := TX8) O inW8 rfl (by decide) (by rw [hm]; exact tw_234) rfl hdg q0 he hv K
theorem pf_X8_15 (O : Ok D X mt d kc ks) (hm : mt.1.cls = RX8) (hini : mt.1.name = "<init>") (hdg : decode mt.2.1 pc = .ok (.putfield 15, 3)) (q0 : Nat) {a : Nat} {fs fs' : List Value} {x : Nat} (he : ws[q0]? = some (a, .inr (8, fs))) (hlen : 1 < fs.length) (hfs : fs.set 1 (.ref x) = fs') {ws' : va_W} (hws : ws.set q0 (a, .inr (8, fs')) = ws') (K : V D X cells slots (pc + 3) lv st ws') : V D X cells slots pc lv (.ref x :: .ref a :: st) ws :=
  v_putF (k := 1) (T := TX8) (ty := .array .int) O inW8 tyX8 tyX8_ok nmX8 rfl (by decide) (by rw [hm]; exact tw_234) rfl rfl hini (by rw [hm]; rfl) (by decide +kernel) hdg q0 he rfl rfl hlen hfs hws K
theorem tw_235 : Cond.fieldLink RX8 18 "OneForDog$Wakings" "parts" "[I" ∈ Wd := wd_of 235 (by decide +kernel) (by decide +kernel)
theorem gf_X8_18 (O : Ok D X mt d kc ks) (hm : mt.1.cls = RX8) (hdg : decode mt.2.1 pc = .ok (.getfield 18, 3)) (q0 : Nat) {a : Nat} {fs : List Value} (he : ws[q0]? = some (a, .inr (8, fs))) {v : Value} (hv : fs[2]? = some v) (K : V D X cells slots (pc + 3) lv (v :: st) ws) : V D X cells slots pc lv (.ref a :: st) ws :=
  v_get (k := 2) (T := TX8) O inW8 rfl (by decide) (by rw [hm]; exact tw_235) rfl hdg q0 he hv K
theorem pf_X8_18 (O : Ok D X mt d kc ks) (hm : mt.1.cls = RX8) (hini : mt.1.name = "<init>") (hdg : decode mt.2.1 pc = .ok (.putfield 18, 3)) (q0 : Nat) {a : Nat} {fs fs' : List Value} {x : Nat} (he : ws[q0]? = some (a, .inr (8, fs))) (hlen : 2 < fs.length) (hfs : fs.set 2 (.ref x) = fs') {ws' : va_W} (hws : ws.set q0 (a, .inr (8, fs')) = ws') (K : V D X cells slots (pc + 3) lv st ws') : V D X cells slots pc lv (.ref x :: .ref a :: st) ws :=
  v_putF (k := 2) (T := TX8) (ty := .array .int) O inW8 tyX8 tyX8_ok nmX8 rfl (by decide) (by rw [hm]; exact tw_235) rfl rfl hini (by rw [hm]; rfl) (by decide +kernel) hdg q0 he rfl rfl hlen hfs hws K
theorem tw_236 : Cond.fieldLink RX8 21 "OneForDog$Wakings" "gone" "I" ∈ Wd := wd_of 236 (by decide +kernel) (by decide +kernel)
theorem gf_X8_21 (O : Ok D X mt d kc ks) (hm : mt.1.cls = RX8) (hdg : decode mt.2.1 pc = .ok (.getfield 21, 3)) (q0 : Nat) {a : Nat} {fs : List Value} (he : ws[q0]? = some (a, .inr (8, fs))) {v : Value} (hv : fs[3]? = some v) (K : V D X cells slots (pc + 3) lv (v :: st) ws) : V D X cells slots pc lv (.ref a :: st) ws :=
  v_get (k := 3) (T := TX8) O inW8 rfl (by decide) (by rw [hm]; exact tw_236) rfl hdg q0 he hv K
theorem pf_X8_21 (O : Ok D X mt d kc ks) (hm : mt.1.cls = RX8) (hdg : decode mt.2.1 pc = .ok (.putfield 21, 3)) (q0 : Nat) {a : Nat} {fs fs' : List Value} {x : Int32} (he : ws[q0]? = some (a, .inr (8, fs))) (hlen : 3 < fs.length) (hfs : fs.set 3 (.int x) = fs') {ws' : va_W} (hws : ws.set q0 (a, .inr (8, fs')) = ws') (K : V D X cells slots (pc + 3) lv st ws') : V D X cells slots pc lv (.int x :: .ref a :: st) ws :=
  v_put (k := 3) (T := TX8) (ty := .int) O inW8 tyX8 tyX8_ok nmX8 rfl (by decide) (by rw [hm]; exact tw_236) rfl rfl (by decide +kernel) hdg q0 he rfl rfl hlen hfs hws K
theorem tw_237 : Cond.fieldLink RX8 27 "OneForDog$Wakings" "facts" "[I" ∈ Wd := wd_of 237 (by decide +kernel) (by decide +kernel)
theorem gf_X8_27 (O : Ok D X mt d kc ks) (hm : mt.1.cls = RX8) (hdg : decode mt.2.1 pc = .ok (.getfield 27, 3)) (q0 : Nat) {a : Nat} {fs : List Value} (he : ws[q0]? = some (a, .inr (8, fs))) {v : Value} (hv : fs[4]? = some v) (K : V D X cells slots (pc + 3) lv (v :: st) ws) : V D X cells slots pc lv (.ref a :: st) ws :=
  v_get (k := 4) (T := TX8) O inW8 rfl (by decide) (by rw [hm]; exact tw_237) rfl hdg q0 he hv K
theorem pf_X8_27 (O : Ok D X mt d kc ks) (hm : mt.1.cls = RX8) (hini : mt.1.name = "<init>") (hdg : decode mt.2.1 pc = .ok (.putfield 27, 3)) (q0 : Nat) {a : Nat} {fs fs' : List Value} {x : Nat} (he : ws[q0]? = some (a, .inr (8, fs))) (hlen : 4 < fs.length) (hfs : fs.set 4 (.ref x) = fs') {ws' : va_W} (hws : ws.set q0 (a, .inr (8, fs')) = ws') (K : V D X cells slots (pc + 3) lv st ws') : V D X cells slots pc lv (.ref x :: .ref a :: st) ws :=
  v_putF (k := 4) (T := TX8) (ty := .array .int) O inW8 tyX8 tyX8_ok nmX8 rfl (by decide) (by rw [hm]; exact tw_237) rfl rfl hini (by rw [hm]; rfl) (by decide +kernel) hdg q0 he rfl rfl hlen hfs hws K
theorem tw_238 : Cond.fieldLink RX8 30 "OneForDog$Wakings" "overs" "[I" ∈ Wd := wd_of 238 (by decide +kernel) (by decide +kernel)
theorem gf_X8_30 (O : Ok D X mt d kc ks) (hm : mt.1.cls = RX8) (hdg : decode mt.2.1 pc = .ok (.getfield 30, 3)) (q0 : Nat) {a : Nat} {fs : List Value} (he : ws[q0]? = some (a, .inr (8, fs))) {v : Value} (hv : fs[5]? = some v) (K : V D X cells slots (pc + 3) lv (v :: st) ws) : V D X cells slots pc lv (.ref a :: st) ws :=
  v_get (k := 5) (T := TX8) O inW8 rfl (by decide) (by rw [hm]; exact tw_238) rfl hdg q0 he hv K
theorem pf_X8_30 (O : Ok D X mt d kc ks) (hm : mt.1.cls = RX8) (hini : mt.1.name = "<init>") (hdg : decode mt.2.1 pc = .ok (.putfield 30, 3)) (q0 : Nat) {a : Nat} {fs fs' : List Value} {x : Nat} (he : ws[q0]? = some (a, .inr (8, fs))) (hlen : 5 < fs.length) (hfs : fs.set 5 (.ref x) = fs') {ws' : va_W} (hws : ws.set q0 (a, .inr (8, fs')) = ws') (K : V D X cells slots (pc + 3) lv st ws') : V D X cells slots pc lv (.ref x :: .ref a :: st) ws :=
  v_putF (k := 5) (T := TX8) (ty := .array .int) O inW8 tyX8 tyX8_ok nmX8 rfl (by decide) (by rw [hm]; exact tw_238) rfl rfl hini (by rw [hm]; rfl) (by decide +kernel) hdg q0 he rfl rfl hlen hfs hws K
theorem tw_239 : Cond.fieldLink RX8 33 "OneForDog$Wakings" "backs" "[I" ∈ Wd := wd_of 239 (by decide +kernel) (by decide +kernel)
theorem gf_X8_33 (O : Ok D X mt d kc ks) (hm : mt.1.cls = RX8) (hdg : decode mt.2.1 pc = .ok (.getfield 33, 3)) (q0 : Nat) {a : Nat} {fs : List Value} (he : ws[q0]? = some (a, .inr (8, fs))) {v : Value} (hv : fs[6]? = some v) (K : V D X cells slots (pc + 3) lv (v :: st) ws) : V D X cells slots pc lv (.ref a :: st) ws :=
  v_get (k := 6) (T := TX8) O inW8 rfl (by decide) (by rw [hm]; exact tw_239) rfl hdg q0 he hv K
theorem pf_X8_33 (O : Ok D X mt d kc ks) (hm : mt.1.cls = RX8) (hini : mt.1.name = "<init>") (hdg : decode mt.2.1 pc = .ok (.putfield 33, 3)) (q0 : Nat) {a : Nat} {fs fs' : List Value} {x : Nat} (he : ws[q0]? = some (a, .inr (8, fs))) (hlen : 6 < fs.length) (hfs : fs.set 6 (.ref x) = fs') {ws' : va_W} (hws : ws.set q0 (a, .inr (8, fs')) = ws') (K : V D X cells slots (pc + 3) lv st ws') : V D X cells slots pc lv (.ref x :: .ref a :: st) ws :=
  v_putF (k := 6) (T := TX8) (ty := .array .int) O inW8 tyX8 tyX8_ok nmX8 rfl (by decide) (by rw [hm]; exact tw_239) rfl rfl hini (by rw [hm]; rfl) (by decide +kernel) hdg q0 he rfl rfl hlen hfs hws K
theorem tw_240 : Cond.fieldLink RX8 36 "OneForDog$Wakings" "left" "I" ∈ Wd := wd_of 240 (by decide +kernel) (by decide +kernel)
theorem gf_X8_36 (O : Ok D X mt d kc ks) (hm : mt.1.cls = RX8) (hdg : decode mt.2.1 pc = .ok (.getfield 36, 3)) (q0 : Nat) {a : Nat} {fs : List Value} (he : ws[q0]? = some (a, .inr (8, fs))) {v : Value} (hv : fs[7]? = some v) (K : V D X cells slots (pc + 3) lv (v :: st) ws) : V D X cells slots pc lv (.ref a :: st) ws :=
  v_get (k := 7) (T := TX8) O inW8 rfl (by decide) (by rw [hm]; exact tw_240) rfl hdg q0 he hv K
theorem pf_X8_36 (O : Ok D X mt d kc ks) (hm : mt.1.cls = RX8) (hdg : decode mt.2.1 pc = .ok (.putfield 36, 3)) (q0 : Nat) {a : Nat} {fs fs' : List Value} {x : Int32} (he : ws[q0]? = some (a, .inr (8, fs))) (hlen : 7 < fs.length) (hfs : fs.set 7 (.int x) = fs') {ws' : va_W} (hws : ws.set q0 (a, .inr (8, fs')) = ws') (K : V D X cells slots (pc + 3) lv st ws') : V D X cells slots pc lv (.int x :: .ref a :: st) ws :=
  v_put (k := 7) (T := TX8) (ty := .int) O inW8 tyX8 tyX8_ok nmX8 rfl (by decide) (by rw [hm]; exact tw_240) rfl rfl (by decide +kernel) hdg q0 he rfl rfl hlen hfs hws K
theorem tw_241 : Cond.fieldLink RX3 69 "OneForDog$Wakings" "left" "I" ∈ Wd := wd_of 241 (by decide +kernel) (by decide +kernel)
theorem gf_X3_69 (O : Ok D X mt d kc ks) (hm : mt.1.cls = RX3) (hdg : decode mt.2.1 pc = .ok (.getfield 69, 3)) (q0 : Nat) {a : Nat} {fs : List Value} (he : ws[q0]? = some (a, .inr (8, fs))) {v : Value} (hv : fs[7]? = some v) (K : V D X cells slots (pc + 3) lv (v :: st) ws) : V D X cells slots pc lv (.ref a :: st) ws :=
  v_get (k := 7) (T := TX8) O inW8 rfl (by decide) (by rw [hm]; exact tw_241) rfl hdg q0 he hv K
theorem tw_242 : Cond.fieldLink RX4 71 "OneForDog$Wakings" "left" "I" ∈ Wd := wd_of 242 (by decide +kernel) (by decide +kernel)
theorem gf_X4_71 (O : Ok D X mt d kc ks) (hm : mt.1.cls = RX4) (hdg : decode mt.2.1 pc = .ok (.getfield 71, 3)) (q0 : Nat) {a : Nat} {fs : List Value} (he : ws[q0]? = some (a, .inr (8, fs))) {v : Value} (hv : fs[7]? = some v) (K : V D X cells slots (pc + 3) lv (v :: st) ws) : V D X cells slots pc lv (.ref a :: st) ws :=
  v_get (k := 7) (T := TX8) O inW8 rfl (by decide) (by rw [hm]; exact tw_242) rfl hdg q0 he hv K
theorem tw_243 : Cond.fieldLink RX9 164 "OneForDog$Wakings" "left" "I" ∈ Wd := wd_of 243 (by decide +kernel) (by decide +kernel)
theorem gf_X9_164 (O : Ok D X mt d kc ks) (hm : mt.1.cls = RX9) (hdg : decode mt.2.1 pc = .ok (.getfield 164, 3)) (q0 : Nat) {a : Nat} {fs : List Value} (he : ws[q0]? = some (a, .inr (8, fs))) {v : Value} (hv : fs[7]? = some v) (K : V D X cells slots (pc + 3) lv (v :: st) ws) : V D X cells slots pc lv (.ref a :: st) ws :=
  v_get (k := 7) (T := TX8) O inW8 rfl (by decide) (by rw [hm]; exact tw_243) rfl hdg q0 he hv K
theorem tw_244 : Cond.fieldLink RX8 39 "OneForDog$Wakings" "dogs" "I" ∈ Wd := wd_of 244 (by decide +kernel) (by decide +kernel)
theorem gf_X8_39 (O : Ok D X mt d kc ks) (hm : mt.1.cls = RX8) (hdg : decode mt.2.1 pc = .ok (.getfield 39, 3)) (q0 : Nat) {a : Nat} {fs : List Value} (he : ws[q0]? = some (a, .inr (8, fs))) {v : Value} (hv : fs[8]? = some v) (K : V D X cells slots (pc + 3) lv (v :: st) ws) : V D X cells slots pc lv (.ref a :: st) ws :=
  v_get (k := 8) (T := TX8) O inW8 rfl (by decide) (by rw [hm]; exact tw_244) rfl hdg q0 he hv K
theorem pf_X8_39 (O : Ok D X mt d kc ks) (hm : mt.1.cls = RX8) (hdg : decode mt.2.1 pc = .ok (.putfield 39, 3)) (q0 : Nat) {a : Nat} {fs fs' : List Value} {x : Int32} (he : ws[q0]? = some (a, .inr (8, fs))) (hlen : 8 < fs.length) (hfs : fs.set 8 (.int x) = fs') {ws' : va_W} (hws : ws.set q0 (a, .inr (8, fs')) = ws') (K : V D X cells slots (pc + 3) lv st ws') : V D X cells slots pc lv (.int x :: .ref a :: st) ws :=
  v_put (k := 8) (T := TX8) (ty := .int) O inW8 tyX8 tyX8_ok nmX8 rfl (by decide) (by rw [hm]; exact tw_244) rfl rfl (by decide +kernel) hdg q0 he rfl rfl hlen hfs hws K
theorem tw_245 : Cond.fieldLink RX3 70 "OneForDog$Wakings" "dogs" "I" ∈ Wd := wd_of 245 (by decide +kernel) (by decide +kernel)
theorem gf_X3_70 (O : Ok D X mt d kc ks) (hm : mt.1.cls = RX3) (hdg : decode mt.2.1 pc = .ok (.getfield 70, 3)) (q0 : Nat) {a : Nat} {fs : List Value} (he : ws[q0]? = some (a, .inr (8, fs))) {v : Value} (hv : fs[8]? = some v) (K : V D X cells slots (pc + 3) lv (v :: st) ws) : V D X cells slots pc lv (.ref a :: st) ws :=
  v_get (k := 8) (T := TX8) O inW8 rfl (by decide) (by rw [hm]; exact tw_245) rfl hdg q0 he hv K
theorem tw_246 : Cond.fieldLink RX9 167 "OneForDog$Wakings" "dogs" "I" ∈ Wd := wd_of 246 (by decide +kernel) (by decide +kernel)
theorem gf_X9_167 (O : Ok D X mt d kc ks) (hm : mt.1.cls = RX9) (hdg : decode mt.2.1 pc = .ok (.getfield 167, 3)) (q0 : Nat) {a : Nat} {fs : List Value} (he : ws[q0]? = some (a, .inr (8, fs))) {v : Value} (hv : fs[8]? = some v) (K : V D X cells slots (pc + 3) lv (v :: st) ws) : V D X cells slots pc lv (.ref a :: st) ws :=
  v_get (k := 8) (T := TX8) O inW8 rfl (by decide) (by rw [hm]; exact tw_246) rfl hdg q0 he hv K
theorem tw_247 : Cond.fieldLink RX8 42 "OneForDog$Wakings" "hides" "I" ∈ Wd := wd_of 247 (by decide +kernel) (by decide +kernel)
theorem gf_X8_42 (O : Ok D X mt d kc ks) (hm : mt.1.cls = RX8) (hdg : decode mt.2.1 pc = .ok (.getfield 42, 3)) (q0 : Nat) {a : Nat} {fs : List Value} (he : ws[q0]? = some (a, .inr (8, fs))) {v : Value} (hv : fs[9]? = some v) (K : V D X cells slots (pc + 3) lv (v :: st) ws) : V D X cells slots pc lv (.ref a :: st) ws :=
  v_get (k := 9) (T := TX8) O inW8 rfl (by decide) (by rw [hm]; exact tw_247) rfl hdg q0 he hv K
theorem pf_X8_42 (O : Ok D X mt d kc ks) (hm : mt.1.cls = RX8) (hdg : decode mt.2.1 pc = .ok (.putfield 42, 3)) (q0 : Nat) {a : Nat} {fs fs' : List Value} {x : Int32} (he : ws[q0]? = some (a, .inr (8, fs))) (hlen : 9 < fs.length) (hfs : fs.set 9 (.int x) = fs') {ws' : va_W} (hws : ws.set q0 (a, .inr (8, fs')) = ws') (K : V D X cells slots (pc + 3) lv st ws') : V D X cells slots pc lv (.int x :: .ref a :: st) ws :=
  v_put (k := 9) (T := TX8) (ty := .int) O inW8 tyX8 tyX8_ok nmX8 rfl (by decide) (by rw [hm]; exact tw_247) rfl rfl (by decide +kernel) hdg q0 he rfl rfl hlen hfs hws K
theorem tw_248 : Cond.fieldLink RX3 71 "OneForDog$Wakings" "hides" "I" ∈ Wd := wd_of 248 (by decide +kernel) (by decide +kernel)
theorem gf_X3_71 (O : Ok D X mt d kc ks) (hm : mt.1.cls = RX3) (hdg : decode mt.2.1 pc = .ok (.getfield 71, 3)) (q0 : Nat) {a : Nat} {fs : List Value} (he : ws[q0]? = some (a, .inr (8, fs))) {v : Value} (hv : fs[9]? = some v) (K : V D X cells slots (pc + 3) lv (v :: st) ws) : V D X cells slots pc lv (.ref a :: st) ws :=
  v_get (k := 9) (T := TX8) O inW8 rfl (by decide) (by rw [hm]; exact tw_248) rfl hdg q0 he hv K
theorem tw_249 : Cond.fieldLink RX9 168 "OneForDog$Wakings" "hides" "I" ∈ Wd := wd_of 249 (by decide +kernel) (by decide +kernel)
theorem gf_X9_168 (O : Ok D X mt d kc ks) (hm : mt.1.cls = RX9) (hdg : decode mt.2.1 pc = .ok (.getfield 168, 3)) (q0 : Nat) {a : Nat} {fs : List Value} (he : ws[q0]? = some (a, .inr (8, fs))) {v : Value} (hv : fs[9]? = some v) (K : V D X cells slots (pc + 3) lv (v :: st) ws) : V D X cells slots pc lv (.ref a :: st) ws :=
  v_get (k := 9) (T := TX8) O inW8 rfl (by decide) (by rw [hm]; exact tw_249) rfl hdg q0 he hv K
theorem tw_279 : Cond.fieldLink RX3 12 "OneForDog$Night" "wakings" "LOneForDog$Wakings;" ∈ Wd := wd_of 279 (by decide +kernel) (by decide +kernel)
theorem gf_X3_12 (O : Ok D X mt d kc ks) (hm : mt.1.cls = RX3) (hdg : decode mt.2.1 pc = .ok (.getfield 12, 3)) (q0 : Nat) {a : Nat} {fs : List Value} (he : ws[q0]? = some (a, .inr (3, fs))) {v : Value} (hv : fs[0]? = some v) (K : V D X cells slots (pc + 3) lv (v :: st) ws) : V D X cells slots pc lv (.ref a :: st) ws :=
  v_get (k := 0) (T := TX3) O inW3 rfl (by decide) (by rw [hm]; exact tw_279) rfl hdg q0 he hv K
theorem pf_X3_12 (O : Ok D X mt d kc ks) (hm : mt.1.cls = RX3) (hini : mt.1.name = "<init>") (hdg : decode mt.2.1 pc = .ok (.putfield 12, 3)) (q0 : Nat) {a : Nat} {fs fs' : List Value} {x : Nat} (he : ws[q0]? = some (a, .inr (3, fs))) (hlen : 0 < fs.length) (hfs : fs.set 0 (.ref x) = fs') {ws' : va_W} (hws : ws.set q0 (a, .inr (3, fs')) = ws') (K : V D X cells slots (pc + 3) lv st ws') : V D X cells slots pc lv (.ref x :: .ref a :: st) ws :=
  v_putF (k := 0) (T := TX3) (ty := .object "OneForDog$Wakings") O inW3 tyX3 tyX3_ok nmX3 rfl (by decide) (by rw [hm]; exact tw_279) rfl rfl hini (by rw [hm]; rfl) (by decide +kernel) hdg q0 he rfl rfl hlen hfs hws K
theorem tw_280 : Cond.fieldLink RX3 18 "OneForDog$Night" "row" "[I" ∈ Wd := wd_of 280 (by decide +kernel) (by decide +kernel)
theorem gf_X3_18 (O : Ok D X mt d kc ks) (hm : mt.1.cls = RX3) (hdg : decode mt.2.1 pc = .ok (.getfield 18, 3)) (q0 : Nat) {a : Nat} {fs : List Value} (he : ws[q0]? = some (a, .inr (3, fs))) {v : Value} (hv : fs[1]? = some v) (K : V D X cells slots (pc + 3) lv (v :: st) ws) : V D X cells slots pc lv (.ref a :: st) ws :=
  v_get (k := 1) (T := TX3) O inW3 rfl (by decide) (by rw [hm]; exact tw_280) rfl hdg q0 he hv K
theorem pf_X3_18 (O : Ok D X mt d kc ks) (hm : mt.1.cls = RX3) (hini : mt.1.name = "<init>") (hdg : decode mt.2.1 pc = .ok (.putfield 18, 3)) (q0 : Nat) {a : Nat} {fs fs' : List Value} {x : Nat} (he : ws[q0]? = some (a, .inr (3, fs))) (hlen : 1 < fs.length) (hfs : fs.set 1 (.ref x) = fs') {ws' : va_W} (hws : ws.set q0 (a, .inr (3, fs')) = ws') (K : V D X cells slots (pc + 3) lv st ws') : V D X cells slots pc lv (.ref x :: .ref a :: st) ws :=
  v_putF (k := 1) (T := TX3) (ty := .array .int) O inW3 tyX3 tyX3_ok nmX3 rfl (by decide) (by rw [hm]; exact tw_280) rfl rfl hini (by rw [hm]; rfl) (by decide +kernel) hdg q0 he rfl rfl hlen hfs hws K
theorem tw_281 : Cond.fieldLink RX3 22 "OneForDog$Night" "length" "I" ∈ Wd := wd_of 281 (by decide +kernel) (by decide +kernel)
theorem gf_X3_22 (O : Ok D X mt d kc ks) (hm : mt.1.cls = RX3) (hdg : decode mt.2.1 pc = .ok (.getfield 22, 3)) (q0 : Nat) {a : Nat} {fs : List Value} (he : ws[q0]? = some (a, .inr (3, fs))) {v : Value} (hv : fs[2]? = some v) (K : V D X cells slots (pc + 3) lv (v :: st) ws) : V D X cells slots pc lv (.ref a :: st) ws :=
  v_get (k := 2) (T := TX3) O inW3 rfl (by decide) (by rw [hm]; exact tw_281) rfl hdg q0 he hv K
theorem pf_X3_22 (O : Ok D X mt d kc ks) (hm : mt.1.cls = RX3) (hdg : decode mt.2.1 pc = .ok (.putfield 22, 3)) (q0 : Nat) {a : Nat} {fs fs' : List Value} {x : Int32} (he : ws[q0]? = some (a, .inr (3, fs))) (hlen : 2 < fs.length) (hfs : fs.set 2 (.int x) = fs') {ws' : va_W} (hws : ws.set q0 (a, .inr (3, fs')) = ws') (K : V D X cells slots (pc + 3) lv st ws') : V D X cells slots pc lv (.int x :: .ref a :: st) ws :=
  v_put (k := 2) (T := TX3) (ty := .int) O inW3 tyX3 tyX3_ok nmX3 rfl (by decide) (by rw [hm]; exact tw_281) rfl rfl (by decide +kernel) hdg q0 he rfl rfl hlen hfs hws K
theorem tw_282 : Cond.fieldLink RX3 26 "OneForDog$Night" "shares" "I" ∈ Wd := wd_of 282 (by decide +kernel) (by decide +kernel)
theorem gf_X3_26 (O : Ok D X mt d kc ks) (hm : mt.1.cls = RX3) (hdg : decode mt.2.1 pc = .ok (.getfield 26, 3)) (q0 : Nat) {a : Nat} {fs : List Value} (he : ws[q0]? = some (a, .inr (3, fs))) {v : Value} (hv : fs[3]? = some v) (K : V D X cells slots (pc + 3) lv (v :: st) ws) : V D X cells slots pc lv (.ref a :: st) ws :=
  v_get (k := 3) (T := TX3) O inW3 rfl (by decide) (by rw [hm]; exact tw_282) rfl hdg q0 he hv K
theorem pf_X3_26 (O : Ok D X mt d kc ks) (hm : mt.1.cls = RX3) (hdg : decode mt.2.1 pc = .ok (.putfield 26, 3)) (q0 : Nat) {a : Nat} {fs fs' : List Value} {x : Int32} (he : ws[q0]? = some (a, .inr (3, fs))) (hlen : 3 < fs.length) (hfs : fs.set 3 (.int x) = fs') {ws' : va_W} (hws : ws.set q0 (a, .inr (3, fs')) = ws') (K : V D X cells slots (pc + 3) lv st ws') : V D X cells slots pc lv (.int x :: .ref a :: st) ws :=
  v_put (k := 3) (T := TX3) (ty := .int) O inW3 tyX3 tyX3_ok nmX3 rfl (by decide) (by rw [hm]; exact tw_282) rfl rfl (by decide +kernel) hdg q0 he rfl rfl hlen hfs hws K
theorem tw_283 : Cond.fieldLink RX3 29 "OneForDog$Night" "morning" "I" ∈ Wd := wd_of 283 (by decide +kernel) (by decide +kernel)
theorem gf_X3_29 (O : Ok D X mt d kc ks) (hm : mt.1.cls = RX3) (hdg : decode mt.2.1 pc = .ok (.getfield 29, 3)) (q0 : Nat) {a : Nat} {fs : List Value} (he : ws[q0]? = some (a, .inr (3, fs))) {v : Value} (hv : fs[4]? = some v) (K : V D X cells slots (pc + 3) lv (v :: st) ws) : V D X cells slots pc lv (.ref a :: st) ws :=
  v_get (k := 4) (T := TX3) O inW3 rfl (by decide) (by rw [hm]; exact tw_283) rfl hdg q0 he hv K
theorem pf_X3_29 (O : Ok D X mt d kc ks) (hm : mt.1.cls = RX3) (hdg : decode mt.2.1 pc = .ok (.putfield 29, 3)) (q0 : Nat) {a : Nat} {fs fs' : List Value} {x : Int32} (he : ws[q0]? = some (a, .inr (3, fs))) (hlen : 4 < fs.length) (hfs : fs.set 4 (.int x) = fs') {ws' : va_W} (hws : ws.set q0 (a, .inr (3, fs')) = ws') (K : V D X cells slots (pc + 3) lv st ws') : V D X cells slots pc lv (.int x :: .ref a :: st) ws :=
  v_put (k := 4) (T := TX3) (ty := .int) O inW3 tyX3 tyX3_ok nmX3 rfl (by decide) (by rw [hm]; exact tw_283) rfl rfl (by decide +kernel) hdg q0 he rfl rfl hlen hfs hws K
theorem tw_284 : Cond.fieldLink RX3 32 "OneForDog$Night" "left" "I" ∈ Wd := wd_of 284 (by decide +kernel) (by decide +kernel)
theorem gf_X3_32 (O : Ok D X mt d kc ks) (hm : mt.1.cls = RX3) (hdg : decode mt.2.1 pc = .ok (.getfield 32, 3)) (q0 : Nat) {a : Nat} {fs : List Value} (he : ws[q0]? = some (a, .inr (3, fs))) {v : Value} (hv : fs[5]? = some v) (K : V D X cells slots (pc + 3) lv (v :: st) ws) : V D X cells slots pc lv (.ref a :: st) ws :=
  v_get (k := 5) (T := TX3) O inW3 rfl (by decide) (by rw [hm]; exact tw_284) rfl hdg q0 he hv K
theorem pf_X3_32 (O : Ok D X mt d kc ks) (hm : mt.1.cls = RX3) (hdg : decode mt.2.1 pc = .ok (.putfield 32, 3)) (q0 : Nat) {a : Nat} {fs fs' : List Value} {x : Int32} (he : ws[q0]? = some (a, .inr (3, fs))) (hlen : 5 < fs.length) (hfs : fs.set 5 (.int x) = fs') {ws' : va_W} (hws : ws.set q0 (a, .inr (3, fs')) = ws') (K : V D X cells slots (pc + 3) lv st ws') : V D X cells slots pc lv (.int x :: .ref a :: st) ws :=
  v_put (k := 5) (T := TX3) (ty := .int) O inW3 tyX3 tyX3_ok nmX3 rfl (by decide) (by rw [hm]; exact tw_284) rfl rfl (by decide +kernel) hdg q0 he rfl rfl hlen hfs hws K
theorem tw_285 : Cond.fieldLink RX9 200 "OneForDog$Night" "left" "I" ∈ Wd := wd_of 285 (by decide +kernel) (by decide +kernel)
theorem gf_X9_200 (O : Ok D X mt d kc ks) (hm : mt.1.cls = RX9) (hdg : decode mt.2.1 pc = .ok (.getfield 200, 3)) (q0 : Nat) {a : Nat} {fs : List Value} (he : ws[q0]? = some (a, .inr (3, fs))) {v : Value} (hv : fs[5]? = some v) (K : V D X cells slots (pc + 3) lv (v :: st) ws) : V D X cells slots pc lv (.ref a :: st) ws :=
  v_get (k := 5) (T := TX3) O inW3 rfl (by decide) (by rw [hm]; exact tw_285) rfl hdg q0 he hv K
theorem tw_286 : Cond.fieldLink RX3 35 "OneForDog$Night" "dogs" "I" ∈ Wd := wd_of 286 (by decide +kernel) (by decide +kernel)
theorem gf_X3_35 (O : Ok D X mt d kc ks) (hm : mt.1.cls = RX3) (hdg : decode mt.2.1 pc = .ok (.getfield 35, 3)) (q0 : Nat) {a : Nat} {fs : List Value} (he : ws[q0]? = some (a, .inr (3, fs))) {v : Value} (hv : fs[6]? = some v) (K : V D X cells slots (pc + 3) lv (v :: st) ws) : V D X cells slots pc lv (.ref a :: st) ws :=
  v_get (k := 6) (T := TX3) O inW3 rfl (by decide) (by rw [hm]; exact tw_286) rfl hdg q0 he hv K
theorem pf_X3_35 (O : Ok D X mt d kc ks) (hm : mt.1.cls = RX3) (hdg : decode mt.2.1 pc = .ok (.putfield 35, 3)) (q0 : Nat) {a : Nat} {fs fs' : List Value} {x : Int32} (he : ws[q0]? = some (a, .inr (3, fs))) (hlen : 6 < fs.length) (hfs : fs.set 6 (.int x) = fs') {ws' : va_W} (hws : ws.set q0 (a, .inr (3, fs')) = ws') (K : V D X cells slots (pc + 3) lv st ws') : V D X cells slots pc lv (.int x :: .ref a :: st) ws :=
  v_put (k := 6) (T := TX3) (ty := .int) O inW3 tyX3 tyX3_ok nmX3 rfl (by decide) (by rw [hm]; exact tw_286) rfl rfl (by decide +kernel) hdg q0 he rfl rfl hlen hfs hws K
theorem tw_287 : Cond.fieldLink RX9 201 "OneForDog$Night" "dogs" "I" ∈ Wd := wd_of 287 (by decide +kernel) (by decide +kernel)
theorem gf_X9_201 (O : Ok D X mt d kc ks) (hm : mt.1.cls = RX9) (hdg : decode mt.2.1 pc = .ok (.getfield 201, 3)) (q0 : Nat) {a : Nat} {fs : List Value} (he : ws[q0]? = some (a, .inr (3, fs))) {v : Value} (hv : fs[6]? = some v) (K : V D X cells slots (pc + 3) lv (v :: st) ws) : V D X cells slots pc lv (.ref a :: st) ws :=
  v_get (k := 6) (T := TX3) O inW3 rfl (by decide) (by rw [hm]; exact tw_287) rfl hdg q0 he hv K
theorem tw_288 : Cond.fieldLink RX3 38 "OneForDog$Night" "hides" "I" ∈ Wd := wd_of 288 (by decide +kernel) (by decide +kernel)
theorem gf_X3_38 (O : Ok D X mt d kc ks) (hm : mt.1.cls = RX3) (hdg : decode mt.2.1 pc = .ok (.getfield 38, 3)) (q0 : Nat) {a : Nat} {fs : List Value} (he : ws[q0]? = some (a, .inr (3, fs))) {v : Value} (hv : fs[7]? = some v) (K : V D X cells slots (pc + 3) lv (v :: st) ws) : V D X cells slots pc lv (.ref a :: st) ws :=
  v_get (k := 7) (T := TX3) O inW3 rfl (by decide) (by rw [hm]; exact tw_288) rfl hdg q0 he hv K
theorem pf_X3_38 (O : Ok D X mt d kc ks) (hm : mt.1.cls = RX3) (hdg : decode mt.2.1 pc = .ok (.putfield 38, 3)) (q0 : Nat) {a : Nat} {fs fs' : List Value} {x : Int32} (he : ws[q0]? = some (a, .inr (3, fs))) (hlen : 7 < fs.length) (hfs : fs.set 7 (.int x) = fs') {ws' : va_W} (hws : ws.set q0 (a, .inr (3, fs')) = ws') (K : V D X cells slots (pc + 3) lv st ws') : V D X cells slots pc lv (.int x :: .ref a :: st) ws :=
  v_put (k := 7) (T := TX3) (ty := .int) O inW3 tyX3 tyX3_ok nmX3 rfl (by decide) (by rw [hm]; exact tw_288) rfl rfl (by decide +kernel) hdg q0 he rfl rfl hlen hfs hws K
theorem tw_289 : Cond.fieldLink RX9 202 "OneForDog$Night" "hides" "I" ∈ Wd := wd_of 289 (by decide +kernel) (by decide +kernel)
theorem gf_X9_202 (O : Ok D X mt d kc ks) (hm : mt.1.cls = RX9) (hdg : decode mt.2.1 pc = .ok (.getfield 202, 3)) (q0 : Nat) {a : Nat} {fs : List Value} (he : ws[q0]? = some (a, .inr (3, fs))) {v : Value} (hv : fs[7]? = some v) (K : V D X cells slots (pc + 3) lv (v :: st) ws) : V D X cells slots pc lv (.ref a :: st) ws :=
  v_get (k := 7) (T := TX3) O inW3 rfl (by decide) (by rw [hm]; exact tw_289) rfl hdg q0 he hv K
theorem tw_315 : Cond.fieldLink RX4 12 "OneForDog$Roster" "wakings" "LOneForDog$Wakings;" ∈ Wd := wd_of 315 (by decide +kernel) (by decide +kernel)
theorem gf_X4_12 (O : Ok D X mt d kc ks) (hm : mt.1.cls = RX4) (hdg : decode mt.2.1 pc = .ok (.getfield 12, 3)) (q0 : Nat) {a : Nat} {fs : List Value} (he : ws[q0]? = some (a, .inr (4, fs))) {v : Value} (hv : fs[0]? = some v) (K : V D X cells slots (pc + 3) lv (v :: st) ws) : V D X cells slots pc lv (.ref a :: st) ws :=
  v_get (k := 0) (T := TX4) O inW4 rfl (by decide) (by rw [hm]; exact tw_315) rfl hdg q0 he hv K
theorem pf_X4_12 (O : Ok D X mt d kc ks) (hm : mt.1.cls = RX4) (hini : mt.1.name = "<init>") (hdg : decode mt.2.1 pc = .ok (.putfield 12, 3)) (q0 : Nat) {a : Nat} {fs fs' : List Value} {x : Nat} (he : ws[q0]? = some (a, .inr (4, fs))) (hlen : 0 < fs.length) (hfs : fs.set 0 (.ref x) = fs') {ws' : va_W} (hws : ws.set q0 (a, .inr (4, fs')) = ws') (K : V D X cells slots (pc + 3) lv st ws') : V D X cells slots pc lv (.ref x :: .ref a :: st) ws :=
  v_putF (k := 0) (T := TX4) (ty := .object "OneForDog$Wakings") O inW4 tyX4 tyX4_ok nmX4 rfl (by decide) (by rw [hm]; exact tw_315) rfl rfl hini (by rw [hm]; rfl) (by decide +kernel) hdg q0 he rfl rfl hlen hfs hws K
theorem tw_316 : Cond.fieldLink RX4 18 "OneForDog$Roster" "up" "[I" ∈ Wd := wd_of 316 (by decide +kernel) (by decide +kernel)
theorem gf_X4_18 (O : Ok D X mt d kc ks) (hm : mt.1.cls = RX4) (hdg : decode mt.2.1 pc = .ok (.getfield 18, 3)) (q0 : Nat) {a : Nat} {fs : List Value} (he : ws[q0]? = some (a, .inr (4, fs))) {v : Value} (hv : fs[1]? = some v) (K : V D X cells slots (pc + 3) lv (v :: st) ws) : V D X cells slots pc lv (.ref a :: st) ws :=
  v_get (k := 1) (T := TX4) O inW4 rfl (by decide) (by rw [hm]; exact tw_316) rfl hdg q0 he hv K
theorem pf_X4_18 (O : Ok D X mt d kc ks) (hm : mt.1.cls = RX4) (hini : mt.1.name = "<init>") (hdg : decode mt.2.1 pc = .ok (.putfield 18, 3)) (q0 : Nat) {a : Nat} {fs fs' : List Value} {x : Nat} (he : ws[q0]? = some (a, .inr (4, fs))) (hlen : 1 < fs.length) (hfs : fs.set 1 (.ref x) = fs') {ws' : va_W} (hws : ws.set q0 (a, .inr (4, fs')) = ws') (K : V D X cells slots (pc + 3) lv st ws') : V D X cells slots pc lv (.ref x :: .ref a :: st) ws :=
  v_putF (k := 1) (T := TX4) (ty := .array .int) O inW4 tyX4 tyX4_ok nmX4 rfl (by decide) (by rw [hm]; exact tw_316) rfl rfl hini (by rw [hm]; rfl) (by decide +kernel) hdg q0 he rfl rfl hlen hfs hws K
theorem tw_317 : Cond.fieldLink RX4 22 "OneForDog$Roster" "best" "[I" ∈ Wd := wd_of 317 (by decide +kernel) (by decide +kernel)
theorem gf_X4_22 (O : Ok D X mt d kc ks) (hm : mt.1.cls = RX4) (hdg : decode mt.2.1 pc = .ok (.getfield 22, 3)) (q0 : Nat) {a : Nat} {fs : List Value} (he : ws[q0]? = some (a, .inr (4, fs))) {v : Value} (hv : fs[2]? = some v) (K : V D X cells slots (pc + 3) lv (v :: st) ws) : V D X cells slots pc lv (.ref a :: st) ws :=
  v_get (k := 2) (T := TX4) O inW4 rfl (by decide) (by rw [hm]; exact tw_317) rfl hdg q0 he hv K
theorem pf_X4_22 (O : Ok D X mt d kc ks) (hm : mt.1.cls = RX4) (hini : mt.1.name = "<init>") (hdg : decode mt.2.1 pc = .ok (.putfield 22, 3)) (q0 : Nat) {a : Nat} {fs fs' : List Value} {x : Nat} (he : ws[q0]? = some (a, .inr (4, fs))) (hlen : 2 < fs.length) (hfs : fs.set 2 (.ref x) = fs') {ws' : va_W} (hws : ws.set q0 (a, .inr (4, fs')) = ws') (K : V D X cells slots (pc + 3) lv st ws') : V D X cells slots pc lv (.ref x :: .ref a :: st) ws :=
  v_putF (k := 2) (T := TX4) (ty := .array .int) O inW4 tyX4 tyX4_ok nmX4 rfl (by decide) (by rw [hm]; exact tw_317) rfl rfl hini (by rw [hm]; rfl) (by decide +kernel) hdg q0 he rfl rfl hlen hfs hws K
theorem tw_318 : Cond.fieldLink RX4 25 "OneForDog$Roster" "bestLength" "I" ∈ Wd := wd_of 318 (by decide +kernel) (by decide +kernel)
theorem gf_X4_25 (O : Ok D X mt d kc ks) (hm : mt.1.cls = RX4) (hdg : decode mt.2.1 pc = .ok (.getfield 25, 3)) (q0 : Nat) {a : Nat} {fs : List Value} (he : ws[q0]? = some (a, .inr (4, fs))) {v : Value} (hv : fs[3]? = some v) (K : V D X cells slots (pc + 3) lv (v :: st) ws) : V D X cells slots pc lv (.ref a :: st) ws :=
  v_get (k := 3) (T := TX4) O inW4 rfl (by decide) (by rw [hm]; exact tw_318) rfl hdg q0 he hv K
theorem pf_X4_25 (O : Ok D X mt d kc ks) (hm : mt.1.cls = RX4) (hdg : decode mt.2.1 pc = .ok (.putfield 25, 3)) (q0 : Nat) {a : Nat} {fs fs' : List Value} {x : Int32} (he : ws[q0]? = some (a, .inr (4, fs))) (hlen : 3 < fs.length) (hfs : fs.set 3 (.int x) = fs') {ws' : va_W} (hws : ws.set q0 (a, .inr (4, fs')) = ws') (K : V D X cells slots (pc + 3) lv st ws') : V D X cells slots pc lv (.int x :: .ref a :: st) ws :=
  v_put (k := 3) (T := TX4) (ty := .int) O inW4 tyX4 tyX4_ok nmX4 rfl (by decide) (by rw [hm]; exact tw_318) rfl rfl (by decide +kernel) hdg q0 he rfl rfl hlen hfs hws K
theorem tw_319 : Cond.fieldLink RX4 29 "OneForDog$Roster" "men" "I" ∈ Wd := wd_of 319 (by decide +kernel) (by decide +kernel)
theorem gf_X4_29 (O : Ok D X mt d kc ks) (hm : mt.1.cls = RX4) (hdg : decode mt.2.1 pc = .ok (.getfield 29, 3)) (q0 : Nat) {a : Nat} {fs : List Value} (he : ws[q0]? = some (a, .inr (4, fs))) {v : Value} (hv : fs[4]? = some v) (K : V D X cells slots (pc + 3) lv (v :: st) ws) : V D X cells slots pc lv (.ref a :: st) ws :=
  v_get (k := 4) (T := TX4) O inW4 rfl (by decide) (by rw [hm]; exact tw_319) rfl hdg q0 he hv K
theorem pf_X4_29 (O : Ok D X mt d kc ks) (hm : mt.1.cls = RX4) (hdg : decode mt.2.1 pc = .ok (.putfield 29, 3)) (q0 : Nat) {a : Nat} {fs fs' : List Value} {x : Int32} (he : ws[q0]? = some (a, .inr (4, fs))) (hlen : 4 < fs.length) (hfs : fs.set 4 (.int x) = fs') {ws' : va_W} (hws : ws.set q0 (a, .inr (4, fs')) = ws') (K : V D X cells slots (pc + 3) lv st ws') : V D X cells slots pc lv (.int x :: .ref a :: st) ws :=
  v_put (k := 4) (T := TX4) (ty := .int) O inW4 tyX4 tyX4_ok nmX4 rfl (by decide) (by rw [hm]; exact tw_319) rfl rfl (by decide +kernel) hdg q0 he rfl rfl hlen hfs hws K
theorem tw_320 : Cond.fieldLink RX4 32 "OneForDog$Roster" "dawn" "I" ∈ Wd := wd_of 320 (by decide +kernel) (by decide +kernel)
theorem gf_X4_32 (O : Ok D X mt d kc ks) (hm : mt.1.cls = RX4) (hdg : decode mt.2.1 pc = .ok (.getfield 32, 3)) (q0 : Nat) {a : Nat} {fs : List Value} (he : ws[q0]? = some (a, .inr (4, fs))) {v : Value} (hv : fs[5]? = some v) (K : V D X cells slots (pc + 3) lv (v :: st) ws) : V D X cells slots pc lv (.ref a :: st) ws :=
  v_get (k := 5) (T := TX4) O inW4 rfl (by decide) (by rw [hm]; exact tw_320) rfl hdg q0 he hv K
theorem pf_X4_32 (O : Ok D X mt d kc ks) (hm : mt.1.cls = RX4) (hdg : decode mt.2.1 pc = .ok (.putfield 32, 3)) (q0 : Nat) {a : Nat} {fs fs' : List Value} {x : Int32} (he : ws[q0]? = some (a, .inr (4, fs))) (hlen : 5 < fs.length) (hfs : fs.set 5 (.int x) = fs') {ws' : va_W} (hws : ws.set q0 (a, .inr (4, fs')) = ws') (K : V D X cells slots (pc + 3) lv st ws') : V D X cells slots pc lv (.int x :: .ref a :: st) ws :=
  v_put (k := 5) (T := TX4) (ty := .int) O inW4 tyX4 tyX4_ok nmX4 rfl (by decide) (by rw [hm]; exact tw_320) rfl rfl (by decide +kernel) hdg q0 he rfl rfl hlen hfs hws K
theorem tw_321 : Cond.fieldLink RX4 35 "OneForDog$Roster" "rows" "I" ∈ Wd := wd_of 321 (by decide +kernel) (by decide +kernel)
theorem gf_X4_35 (O : Ok D X mt d kc ks) (hm : mt.1.cls = RX4) (hdg : decode mt.2.1 pc = .ok (.getfield 35, 3)) (q0 : Nat) {a : Nat} {fs : List Value} (he : ws[q0]? = some (a, .inr (4, fs))) {v : Value} (hv : fs[6]? = some v) (K : V D X cells slots (pc + 3) lv (v :: st) ws) : V D X cells slots pc lv (.ref a :: st) ws :=
  v_get (k := 6) (T := TX4) O inW4 rfl (by decide) (by rw [hm]; exact tw_321) rfl hdg q0 he hv K
theorem pf_X4_35 (O : Ok D X mt d kc ks) (hm : mt.1.cls = RX4) (hdg : decode mt.2.1 pc = .ok (.putfield 35, 3)) (q0 : Nat) {a : Nat} {fs fs' : List Value} {x : Int32} (he : ws[q0]? = some (a, .inr (4, fs))) (hlen : 6 < fs.length) (hfs : fs.set 6 (.int x) = fs') {ws' : va_W} (hws : ws.set q0 (a, .inr (4, fs')) = ws') (K : V D X cells slots (pc + 3) lv st ws') : V D X cells slots pc lv (.int x :: .ref a :: st) ws :=
  v_put (k := 6) (T := TX4) (ty := .int) O inW4 tyX4 tyX4_ok nmX4 rfl (by decide) (by rw [hm]; exact tw_321) rfl rfl (by decide +kernel) hdg q0 he rfl rfl hlen hfs hws K
theorem tw_322 : Cond.fieldLink RX9 210 "OneForDog$Roster" "rows" "I" ∈ Wd := wd_of 322 (by decide +kernel) (by decide +kernel)
theorem gf_X9_210 (O : Ok D X mt d kc ks) (hm : mt.1.cls = RX9) (hdg : decode mt.2.1 pc = .ok (.getfield 210, 3)) (q0 : Nat) {a : Nat} {fs : List Value} (he : ws[q0]? = some (a, .inr (4, fs))) {v : Value} (hv : fs[6]? = some v) (K : V D X cells slots (pc + 3) lv (v :: st) ws) : V D X cells slots pc lv (.ref a :: st) ws :=
  v_get (k := 6) (T := TX4) O inW4 rfl (by decide) (by rw [hm]; exact tw_322) rfl hdg q0 he hv K
theorem tw_344 : Cond.fieldLink RX2 9 "OneForDog$LongNumber" "digits" "[I" ∈ Wd := wd_of 344 (by decide +kernel) (by decide +kernel)
theorem gf_X2_9 (O : Ok D X mt d kc ks) (hm : mt.1.cls = RX2) (hdg : decode mt.2.1 pc = .ok (.getfield 9, 3)) (q0 : Nat) {a : Nat} {fs : List Value} (he : ws[q0]? = some (a, .inr (2, fs))) {v : Value} (hv : fs[0]? = some v) (K : V D X cells slots (pc + 3) lv (v :: st) ws) : V D X cells slots pc lv (.ref a :: st) ws :=
  v_get (k := 0) (T := TX2) O inW2 rfl (by decide) (by rw [hm]; exact tw_344) rfl hdg q0 he hv K
theorem pf_X2_9 (O : Ok D X mt d kc ks) (hm : mt.1.cls = RX2) (hini : mt.1.name = "<init>") (hdg : decode mt.2.1 pc = .ok (.putfield 9, 3)) (q0 : Nat) {a : Nat} {fs fs' : List Value} {x : Nat} (he : ws[q0]? = some (a, .inr (2, fs))) (hlen : 0 < fs.length) (hfs : fs.set 0 (.ref x) = fs') {ws' : va_W} (hws : ws.set q0 (a, .inr (2, fs')) = ws') (K : V D X cells slots (pc + 3) lv st ws') : V D X cells slots pc lv (.ref x :: .ref a :: st) ws :=
  v_putF (k := 0) (T := TX2) (ty := .array .int) O inW2 tyX2 tyX2_ok nmX2 rfl (by decide) (by rw [hm]; exact tw_344) rfl rfl hini (by rw [hm]; rfl) (by decide +kernel) hdg q0 he rfl rfl hlen hfs hws K
theorem tw_354 : Cond.fieldLink RX0 11 "OneForDog$Bodies" "trace" "[I" ∈ Wd := wd_of 354 (by decide +kernel) (by decide +kernel)
theorem gf_X0_11 (O : Ok D X mt d kc ks) (hm : mt.1.cls = RX0) (hdg : decode mt.2.1 pc = .ok (.getfield 11, 3)) (q0 : Nat) {a : Nat} {fs : List Value} (he : ws[q0]? = some (a, .inr (0, fs))) {v : Value} (hv : fs[0]? = some v) (K : V D X cells slots (pc + 3) lv (v :: st) ws) : V D X cells slots pc lv (.ref a :: st) ws :=
  v_get (k := 0) (T := TX0) O inW0 rfl (by decide) (by rw [hm]; exact tw_354) rfl hdg q0 he hv K
theorem pf_X0_11 (O : Ok D X mt d kc ks) (hm : mt.1.cls = RX0) (hini : mt.1.name = "<init>") (hdg : decode mt.2.1 pc = .ok (.putfield 11, 3)) (q0 : Nat) {a : Nat} {fs fs' : List Value} {x : Nat} (he : ws[q0]? = some (a, .inr (0, fs))) (hlen : 0 < fs.length) (hfs : fs.set 0 (.ref x) = fs') {ws' : va_W} (hws : ws.set q0 (a, .inr (0, fs')) = ws') (K : V D X cells slots (pc + 3) lv st ws') : V D X cells slots pc lv (.ref x :: .ref a :: st) ws :=
  v_putF (k := 0) (T := TX0) (ty := .array .int) O inW0 tyX0 tyX0_ok nmX0 rfl (by decide) (by rw [hm]; exact tw_354) rfl rfl hini (by rw [hm]; rfl) (by decide +kernel) hdg q0 he rfl rfl hlen hfs hws K
theorem tw_355 : Cond.fieldLink RX0 15 "OneForDog$Bodies" "ran" "I" ∈ Wd := wd_of 355 (by decide +kernel) (by decide +kernel)
theorem gf_X0_15 (O : Ok D X mt d kc ks) (hm : mt.1.cls = RX0) (hdg : decode mt.2.1 pc = .ok (.getfield 15, 3)) (q0 : Nat) {a : Nat} {fs : List Value} (he : ws[q0]? = some (a, .inr (0, fs))) {v : Value} (hv : fs[1]? = some v) (K : V D X cells slots (pc + 3) lv (v :: st) ws) : V D X cells slots pc lv (.ref a :: st) ws :=
  v_get (k := 1) (T := TX0) O inW0 rfl (by decide) (by rw [hm]; exact tw_355) rfl hdg q0 he hv K
theorem pf_X0_15 (O : Ok D X mt d kc ks) (hm : mt.1.cls = RX0) (hdg : decode mt.2.1 pc = .ok (.putfield 15, 3)) (q0 : Nat) {a : Nat} {fs fs' : List Value} {x : Int32} (he : ws[q0]? = some (a, .inr (0, fs))) (hlen : 1 < fs.length) (hfs : fs.set 1 (.int x) = fs') {ws' : va_W} (hws : ws.set q0 (a, .inr (0, fs')) = ws') (K : V D X cells slots (pc + 3) lv st ws') : V D X cells slots pc lv (.int x :: .ref a :: st) ws :=
  v_put (k := 1) (T := TX0) (ty := .int) O inW0 tyX0 tyX0_ok nmX0 rfl (by decide) (by rw [hm]; exact tw_355) rfl rfl (by decide +kernel) hdg q0 he rfl rfl hlen hfs hws K
theorem tw_356 : Cond.fieldLink RX9 281 "OneForDog$Bodies" "ran" "I" ∈ Wd := wd_of 356 (by decide +kernel) (by decide +kernel)
theorem gf_X9_281 (O : Ok D X mt d kc ks) (hm : mt.1.cls = RX9) (hdg : decode mt.2.1 pc = .ok (.getfield 281, 3)) (q0 : Nat) {a : Nat} {fs : List Value} (he : ws[q0]? = some (a, .inr (0, fs))) {v : Value} (hv : fs[1]? = some v) (K : V D X cells slots (pc + 3) lv (v :: st) ws) : V D X cells slots pc lv (.ref a :: st) ws :=
  v_get (k := 1) (T := TX0) O inW0 rfl (by decide) (by rw [hm]; exact tw_356) rfl hdg q0 he hv K
theorem tw_357 : Cond.fieldLink RX0 19 "OneForDog$Bodies" "i" "I" ∈ Wd := wd_of 357 (by decide +kernel) (by decide +kernel)
theorem gf_X0_19 (O : Ok D X mt d kc ks) (hm : mt.1.cls = RX0) (hdg : decode mt.2.1 pc = .ok (.getfield 19, 3)) (q0 : Nat) {a : Nat} {fs : List Value} (he : ws[q0]? = some (a, .inr (0, fs))) {v : Value} (hv : fs[2]? = some v) (K : V D X cells slots (pc + 3) lv (v :: st) ws) : V D X cells slots pc lv (.ref a :: st) ws :=
  v_get (k := 2) (T := TX0) O inW0 rfl (by decide) (by rw [hm]; exact tw_357) rfl hdg q0 he hv K
theorem pf_X0_19 (O : Ok D X mt d kc ks) (hm : mt.1.cls = RX0) (hdg : decode mt.2.1 pc = .ok (.putfield 19, 3)) (q0 : Nat) {a : Nat} {fs fs' : List Value} {x : Int32} (he : ws[q0]? = some (a, .inr (0, fs))) (hlen : 2 < fs.length) (hfs : fs.set 2 (.int x) = fs') {ws' : va_W} (hws : ws.set q0 (a, .inr (0, fs')) = ws') (K : V D X cells slots (pc + 3) lv st ws') : V D X cells slots pc lv (.int x :: .ref a :: st) ws :=
  v_put (k := 2) (T := TX0) (ty := .int) O inW0 tyX0 tyX0_ok nmX0 rfl (by decide) (by rw [hm]; exact tw_357) rfl rfl (by decide +kernel) hdg q0 he rfl rfl hlen hfs hws K
theorem tw_358 : Cond.fieldLink RX0 22 "OneForDog$Bodies" "kind" "I" ∈ Wd := wd_of 358 (by decide +kernel) (by decide +kernel)
theorem gf_X0_22 (O : Ok D X mt d kc ks) (hm : mt.1.cls = RX0) (hdg : decode mt.2.1 pc = .ok (.getfield 22, 3)) (q0 : Nat) {a : Nat} {fs : List Value} (he : ws[q0]? = some (a, .inr (0, fs))) {v : Value} (hv : fs[3]? = some v) (K : V D X cells slots (pc + 3) lv (v :: st) ws) : V D X cells slots pc lv (.ref a :: st) ws :=
  v_get (k := 3) (T := TX0) O inW0 rfl (by decide) (by rw [hm]; exact tw_358) rfl hdg q0 he hv K
theorem pf_X0_22 (O : Ok D X mt d kc ks) (hm : mt.1.cls = RX0) (hdg : decode mt.2.1 pc = .ok (.putfield 22, 3)) (q0 : Nat) {a : Nat} {fs fs' : List Value} {x : Int32} (he : ws[q0]? = some (a, .inr (0, fs))) (hlen : 3 < fs.length) (hfs : fs.set 3 (.int x) = fs') {ws' : va_W} (hws : ws.set q0 (a, .inr (0, fs')) = ws') (K : V D X cells slots (pc + 3) lv st ws') : V D X cells slots pc lv (.int x :: .ref a :: st) ws :=
  v_put (k := 3) (T := TX0) (ty := .int) O inW0 tyX0 tyX0_ok nmX0 rfl (by decide) (by rw [hm]; exact tw_358) rfl rfl (by decide +kernel) hdg q0 he rfl rfl hlen hfs hws K
theorem tw_359 : Cond.fieldLink RX0 25 "OneForDog$Bodies" "v" "I" ∈ Wd := wd_of 359 (by decide +kernel) (by decide +kernel)
theorem gf_X0_25 (O : Ok D X mt d kc ks) (hm : mt.1.cls = RX0) (hdg : decode mt.2.1 pc = .ok (.getfield 25, 3)) (q0 : Nat) {a : Nat} {fs : List Value} (he : ws[q0]? = some (a, .inr (0, fs))) {v : Value} (hv : fs[4]? = some v) (K : V D X cells slots (pc + 3) lv (v :: st) ws) : V D X cells slots pc lv (.ref a :: st) ws :=
  v_get (k := 4) (T := TX0) O inW0 rfl (by decide) (by rw [hm]; exact tw_359) rfl hdg q0 he hv K
theorem pf_X0_25 (O : Ok D X mt d kc ks) (hm : mt.1.cls = RX0) (hdg : decode mt.2.1 pc = .ok (.putfield 25, 3)) (q0 : Nat) {a : Nat} {fs fs' : List Value} {x : Int32} (he : ws[q0]? = some (a, .inr (0, fs))) (hlen : 4 < fs.length) (hfs : fs.set 4 (.int x) = fs') {ws' : va_W} (hws : ws.set q0 (a, .inr (0, fs')) = ws') (K : V D X cells slots (pc + 3) lv st ws') : V D X cells slots pc lv (.int x :: .ref a :: st) ws :=
  v_put (k := 4) (T := TX0) (ty := .int) O inW0 tyX0 tyX0_ok nmX0 rfl (by decide) (by rw [hm]; exact tw_359) rfl rfl (by decide +kernel) hdg q0 he rfl rfl hlen hfs hws K
theorem tw_378 : Cond.fieldLink RX5 11 "OneForDog$Tape" "sort" "I" ∈ Wd := wd_of 378 (by decide +kernel) (by decide +kernel)
theorem gf_X5_11 (O : Ok D X mt d kc ks) (hm : mt.1.cls = RX5) (hdg : decode mt.2.1 pc = .ok (.getfield 11, 3)) (q0 : Nat) {a : Nat} {fs : List Value} (he : ws[q0]? = some (a, .inr (5, fs))) {v : Value} (hv : fs[0]? = some v) (K : V D X cells slots (pc + 3) lv (v :: st) ws) : V D X cells slots pc lv (.ref a :: st) ws :=
  v_get (k := 0) (T := TX5) O inW5 rfl (by decide) (by rw [hm]; exact tw_378) rfl hdg q0 he hv K
theorem pf_X5_11 (O : Ok D X mt d kc ks) (hm : mt.1.cls = RX5) (hdg : decode mt.2.1 pc = .ok (.putfield 11, 3)) (q0 : Nat) {a : Nat} {fs fs' : List Value} {x : Int32} (he : ws[q0]? = some (a, .inr (5, fs))) (hlen : 0 < fs.length) (hfs : fs.set 0 (.int x) = fs') {ws' : va_W} (hws : ws.set q0 (a, .inr (5, fs')) = ws') (K : V D X cells slots (pc + 3) lv st ws') : V D X cells slots pc lv (.int x :: .ref a :: st) ws :=
  v_put (k := 0) (T := TX5) (ty := .int) O inW5 tyX5 tyX5_ok nmX5 rfl (by decide) (by rw [hm]; exact tw_378) rfl rfl (by decide +kernel) hdg q0 he rfl rfl hlen hfs hws K
theorem tw_379 : Cond.fieldLink RX9 251 "OneForDog$Tape" "sort" "I" ∈ Wd := wd_of 379 (by decide +kernel) (by decide +kernel)
theorem gf_X9_251 (O : Ok D X mt d kc ks) (hm : mt.1.cls = RX9) (hdg : decode mt.2.1 pc = .ok (.getfield 251, 3)) (q0 : Nat) {a : Nat} {fs : List Value} (he : ws[q0]? = some (a, .inr (5, fs))) {v : Value} (hv : fs[0]? = some v) (K : V D X cells slots (pc + 3) lv (v :: st) ws) : V D X cells slots pc lv (.ref a :: st) ws :=
  v_get (k := 0) (T := TX5) O inW5 rfl (by decide) (by rw [hm]; exact tw_379) rfl hdg q0 he hv K
theorem tw_380 : Cond.fieldLink RX5 15 "OneForDog$Tape" "length" "I" ∈ Wd := wd_of 380 (by decide +kernel) (by decide +kernel)
theorem gf_X5_15 (O : Ok D X mt d kc ks) (hm : mt.1.cls = RX5) (hdg : decode mt.2.1 pc = .ok (.getfield 15, 3)) (q0 : Nat) {a : Nat} {fs : List Value} (he : ws[q0]? = some (a, .inr (5, fs))) {v : Value} (hv : fs[1]? = some v) (K : V D X cells slots (pc + 3) lv (v :: st) ws) : V D X cells slots pc lv (.ref a :: st) ws :=
  v_get (k := 1) (T := TX5) O inW5 rfl (by decide) (by rw [hm]; exact tw_380) rfl hdg q0 he hv K
theorem pf_X5_15 (O : Ok D X mt d kc ks) (hm : mt.1.cls = RX5) (hdg : decode mt.2.1 pc = .ok (.putfield 15, 3)) (q0 : Nat) {a : Nat} {fs fs' : List Value} {x : Int32} (he : ws[q0]? = some (a, .inr (5, fs))) (hlen : 1 < fs.length) (hfs : fs.set 1 (.int x) = fs') {ws' : va_W} (hws : ws.set q0 (a, .inr (5, fs')) = ws') (K : V D X cells slots (pc + 3) lv st ws') : V D X cells slots pc lv (.int x :: .ref a :: st) ws :=
  v_put (k := 1) (T := TX5) (ty := .int) O inW5 tyX5 tyX5_ok nmX5 rfl (by decide) (by rw [hm]; exact tw_380) rfl rfl (by decide +kernel) hdg q0 he rfl rfl hlen hfs hws K
theorem tw_381 : Cond.fieldLink RX5 18 "OneForDog$Tape" "items" "[J" ∈ Wd := wd_of 381 (by decide +kernel) (by decide +kernel)
theorem gf_X5_18 (O : Ok D X mt d kc ks) (hm : mt.1.cls = RX5) (hdg : decode mt.2.1 pc = .ok (.getfield 18, 3)) (q0 : Nat) {a : Nat} {fs : List Value} (he : ws[q0]? = some (a, .inr (5, fs))) {v : Value} (hv : fs[2]? = some v) (K : V D X cells slots (pc + 3) lv (v :: st) ws) : V D X cells slots pc lv (.ref a :: st) ws :=
  v_get (k := 2) (T := TX5) O inW5 rfl (by decide) (by rw [hm]; exact tw_381) rfl hdg q0 he hv K
theorem pf_X5_18 (O : Ok D X mt d kc ks) (hm : mt.1.cls = RX5) (hini : mt.1.name = "<init>") (hdg : decode mt.2.1 pc = .ok (.putfield 18, 3)) (q0 : Nat) {a : Nat} {fs fs' : List Value} {x : Nat} (he : ws[q0]? = some (a, .inr (5, fs))) (hlen : 2 < fs.length) (hfs : fs.set 2 (.ref x) = fs') {ws' : va_W} (hws : ws.set q0 (a, .inr (5, fs')) = ws') (K : V D X cells slots (pc + 3) lv st ws') : V D X cells slots pc lv (.ref x :: .ref a :: st) ws :=
  v_putF (k := 2) (T := TX5) (ty := .array .long) O inW5 tyX5 tyX5_ok nmX5 rfl (by decide) (by rw [hm]; exact tw_381) rfl rfl hini (by rw [hm]; rfl) (by decide +kernel) hdg q0 he rfl rfl hlen hfs hws K
theorem tw_382 : Cond.fieldLink RX9 294 "OneForDog$Tape" "items" "[J" ∈ Wd := wd_of 382 (by decide +kernel) (by decide +kernel)
theorem gf_X9_294 (O : Ok D X mt d kc ks) (hm : mt.1.cls = RX9) (hdg : decode mt.2.1 pc = .ok (.getfield 294, 3)) (q0 : Nat) {a : Nat} {fs : List Value} (he : ws[q0]? = some (a, .inr (5, fs))) {v : Value} (hv : fs[2]? = some v) (K : V D X cells slots (pc + 3) lv (v :: st) ws) : V D X cells slots pc lv (.ref a :: st) ws :=
  v_get (k := 2) (T := TX5) O inW5 rfl (by decide) (by rw [hm]; exact tw_382) rfl hdg q0 he hv K
theorem tw_391 : Cond.fieldLink RX9 12 "OneForDog" "camp" "LOneForDog$Camp;" ∈ Wd := wd_of 391 (by decide +kernel) (by decide +kernel)
theorem gf_X9_12 (O : Ok D X mt d kc ks) (hm : mt.1.cls = RX9) (hdg : decode mt.2.1 pc = .ok (.getfield 12, 3)) (q0 : Nat) {a : Nat} {fs : List Value} (he : ws[q0]? = some (a, .inr (9, fs))) {v : Value} (hv : fs[0]? = some v) (K : V D X cells slots (pc + 3) lv (v :: st) ws) : V D X cells slots pc lv (.ref a :: st) ws :=
  v_get (k := 0) (T := TX9) O inW9 rfl (by decide) (by rw [hm]; exact tw_391) rfl hdg q0 he hv K
theorem pf_X9_12 (O : Ok D X mt d kc ks) (hm : mt.1.cls = RX9) (hini : mt.1.name = "<init>") (hdg : decode mt.2.1 pc = .ok (.putfield 12, 3)) (q0 : Nat) {a : Nat} {fs fs' : List Value} {x : Nat} (he : ws[q0]? = some (a, .inr (9, fs))) (hlen : 0 < fs.length) (hfs : fs.set 0 (.ref x) = fs') {ws' : va_W} (hws : ws.set q0 (a, .inr (9, fs')) = ws') (K : V D X cells slots (pc + 3) lv st ws') : V D X cells slots pc lv (.ref x :: .ref a :: st) ws :=
  v_putF (k := 0) (T := TX9) (ty := .object "OneForDog$Camp") O inW9 tyX9 tyX9_ok nmX9 rfl (by decide) (by rw [hm]; exact tw_391) rfl rfl hini (by rw [hm]; rfl) (by decide +kernel) hdg q0 he rfl rfl hlen hfs hws K
theorem tw_392 : Cond.fieldLink RX9 18 "OneForDog" "image" "LOneForDog$Camp;" ∈ Wd := wd_of 392 (by decide +kernel) (by decide +kernel)
theorem gf_X9_18 (O : Ok D X mt d kc ks) (hm : mt.1.cls = RX9) (hdg : decode mt.2.1 pc = .ok (.getfield 18, 3)) (q0 : Nat) {a : Nat} {fs : List Value} (he : ws[q0]? = some (a, .inr (9, fs))) {v : Value} (hv : fs[1]? = some v) (K : V D X cells slots (pc + 3) lv (v :: st) ws) : V D X cells slots pc lv (.ref a :: st) ws :=
  v_get (k := 1) (T := TX9) O inW9 rfl (by decide) (by rw [hm]; exact tw_392) rfl hdg q0 he hv K
theorem pf_X9_18 (O : Ok D X mt d kc ks) (hm : mt.1.cls = RX9) (hini : mt.1.name = "<init>") (hdg : decode mt.2.1 pc = .ok (.putfield 18, 3)) (q0 : Nat) {a : Nat} {fs fs' : List Value} {x : Nat} (he : ws[q0]? = some (a, .inr (9, fs))) (hlen : 1 < fs.length) (hfs : fs.set 1 (.ref x) = fs') {ws' : va_W} (hws : ws.set q0 (a, .inr (9, fs')) = ws') (K : V D X cells slots (pc + 3) lv st ws') : V D X cells slots pc lv (.ref x :: .ref a :: st) ws :=
  v_putF (k := 1) (T := TX9) (ty := .object "OneForDog$Camp") O inW9 tyX9 tyX9_ok nmX9 rfl (by decide) (by rw [hm]; exact tw_392) rfl rfl hini (by rw [hm]; rfl) (by decide +kernel) hdg q0 he rfl rfl hlen hfs hws K
theorem tw_393 : Cond.fieldLink RX9 21 "OneForDog" "imageTaken" "Z" ∈ Wd := wd_of 393 (by decide +kernel) (by decide +kernel)
theorem gf_X9_21 (O : Ok D X mt d kc ks) (hm : mt.1.cls = RX9) (hdg : decode mt.2.1 pc = .ok (.getfield 21, 3)) (q0 : Nat) {a : Nat} {fs : List Value} (he : ws[q0]? = some (a, .inr (9, fs))) {v : Value} (hv : fs[2]? = some v) (K : V D X cells slots (pc + 3) lv (v :: st) ws) : V D X cells slots pc lv (.ref a :: st) ws :=
  v_get (k := 2) (T := TX9) O inW9 rfl (by decide) (by rw [hm]; exact tw_393) rfl hdg q0 he hv K
theorem pf_X9_21 (O : Ok D X mt d kc ks) (hm : mt.1.cls = RX9) (hdg : decode mt.2.1 pc = .ok (.putfield 21, 3)) (q0 : Nat) {a : Nat} {fs fs' : List Value} {x : Int32} (he : ws[q0]? = some (a, .inr (9, fs))) (hn : narrow .boolean (.int x) = .int x) (hfit : fits .boolean (.int x) = true) (hlen : 2 < fs.length) (hfs : fs.set 2 (.int x) = fs') {ws' : va_W} (hws : ws.set q0 (a, .inr (9, fs')) = ws') (K : V D X cells slots (pc + 3) lv st ws') : V D X cells slots pc lv (.int x :: .ref a :: st) ws :=
  v_put (k := 2) (T := TX9) (ty := .boolean) O inW9 tyX9 tyX9_ok nmX9 rfl (by decide) (by rw [hm]; exact tw_393) rfl rfl (by decide +kernel) hdg q0 he hn hfit hlen hfs hws K
theorem tw_394 : Cond.fieldLink RX9 28 "OneForDog" "text" "LOneForDog$VillageText;" ∈ Wd := wd_of 394 (by decide +kernel) (by decide +kernel)
theorem gf_X9_28 (O : Ok D X mt d kc ks) (hm : mt.1.cls = RX9) (hdg : decode mt.2.1 pc = .ok (.getfield 28, 3)) (q0 : Nat) {a : Nat} {fs : List Value} (he : ws[q0]? = some (a, .inr (9, fs))) {v : Value} (hv : fs[3]? = some v) (K : V D X cells slots (pc + 3) lv (v :: st) ws) : V D X cells slots pc lv (.ref a :: st) ws :=
  v_get (k := 3) (T := TX9) O inW9 rfl (by decide) (by rw [hm]; exact tw_394) rfl hdg q0 he hv K
theorem pf_X9_28 (O : Ok D X mt d kc ks) (hm : mt.1.cls = RX9) (hini : mt.1.name = "<init>") (hdg : decode mt.2.1 pc = .ok (.putfield 28, 3)) (q0 : Nat) {a : Nat} {fs fs' : List Value} {x : Nat} (he : ws[q0]? = some (a, .inr (9, fs))) (hlen : 3 < fs.length) (hfs : fs.set 3 (.ref x) = fs') {ws' : va_W} (hws : ws.set q0 (a, .inr (9, fs')) = ws') (K : V D X cells slots (pc + 3) lv st ws') : V D X cells slots pc lv (.ref x :: .ref a :: st) ws :=
  v_putF (k := 3) (T := TX9) (ty := .object "OneForDog$VillageText") O inW9 tyX9 tyX9_ok nmX9 rfl (by decide) (by rw [hm]; exact tw_394) rfl rfl hini (by rw [hm]; rfl) (by decide +kernel) hdg q0 he rfl rfl hlen hfs hws K
theorem tw_395 : Cond.fieldLink RX9 35 "OneForDog" "bare" "LOneForDog$Village;" ∈ Wd := wd_of 395 (by decide +kernel) (by decide +kernel)
theorem gf_X9_35 (O : Ok D X mt d kc ks) (hm : mt.1.cls = RX9) (hdg : decode mt.2.1 pc = .ok (.getfield 35, 3)) (q0 : Nat) {a : Nat} {fs : List Value} (he : ws[q0]? = some (a, .inr (9, fs))) {v : Value} (hv : fs[4]? = some v) (K : V D X cells slots (pc + 3) lv (v :: st) ws) : V D X cells slots pc lv (.ref a :: st) ws :=
  v_get (k := 4) (T := TX9) O inW9 rfl (by decide) (by rw [hm]; exact tw_395) rfl hdg q0 he hv K
theorem pf_X9_35 (O : Ok D X mt d kc ks) (hm : mt.1.cls = RX9) (hini : mt.1.name = "<init>") (hdg : decode mt.2.1 pc = .ok (.putfield 35, 3)) (q0 : Nat) {a : Nat} {fs fs' : List Value} {x : Nat} (he : ws[q0]? = some (a, .inr (9, fs))) (hlen : 4 < fs.length) (hfs : fs.set 4 (.ref x) = fs') {ws' : va_W} (hws : ws.set q0 (a, .inr (9, fs')) = ws') (K : V D X cells slots (pc + 3) lv st ws') : V D X cells slots pc lv (.ref x :: .ref a :: st) ws :=
  v_putF (k := 4) (T := TX9) (ty := .object "OneForDog$Village") O inW9 tyX9 tyX9_ok nmX9 rfl (by decide) (by rw [hm]; exact tw_395) rfl rfl hini (by rw [hm]; rfl) (by decide +kernel) hdg q0 he rfl rfl hlen hfs hws K
theorem tw_396 : Cond.fieldLink RX9 39 "OneForDog" "villages" "[LOneForDog$Village;" ∈ Wd := wd_of 396 (by decide +kernel) (by decide +kernel)
theorem gf_X9_39 (O : Ok D X mt d kc ks) (hm : mt.1.cls = RX9) (hdg : decode mt.2.1 pc = .ok (.getfield 39, 3)) (q0 : Nat) {a : Nat} {fs : List Value} (he : ws[q0]? = some (a, .inr (9, fs))) {v : Value} (hv : fs[5]? = some v) (K : V D X cells slots (pc + 3) lv (v :: st) ws) : V D X cells slots pc lv (.ref a :: st) ws :=
  v_get (k := 5) (T := TX9) O inW9 rfl (by decide) (by rw [hm]; exact tw_396) rfl hdg q0 he hv K
theorem pf_X9_39 (O : Ok D X mt d kc ks) (hm : mt.1.cls = RX9) (hini : mt.1.name = "<init>") (hdg : decode mt.2.1 pc = .ok (.putfield 39, 3)) (q0 : Nat) {a : Nat} {fs fs' : List Value} {x : Nat} (he : ws[q0]? = some (a, .inr (9, fs))) (hlen : 5 < fs.length) (hfs : fs.set 5 (.ref x) = fs') {ws' : va_W} (hws : ws.set q0 (a, .inr (9, fs')) = ws') (K : V D X cells slots (pc + 3) lv st ws') : V D X cells slots pc lv (.ref x :: .ref a :: st) ws :=
  v_putF (k := 5) (T := TX9) (ty := .array (.object "OneForDog$Village")) O inW9 tyX9 tyX9_ok nmX9 rfl (by decide) (by rw [hm]; exact tw_396) rfl rfl hini (by rw [hm]; rfl) (by decide +kernel) hdg q0 he rfl rfl hlen hfs hws K
theorem tw_397 : Cond.fieldLink RX9 43 "OneForDog" "villageCount" "I" ∈ Wd := wd_of 397 (by decide +kernel) (by decide +kernel)
theorem gf_X9_43 (O : Ok D X mt d kc ks) (hm : mt.1.cls = RX9) (hdg : decode mt.2.1 pc = .ok (.getfield 43, 3)) (q0 : Nat) {a : Nat} {fs : List Value} (he : ws[q0]? = some (a, .inr (9, fs))) {v : Value} (hv : fs[6]? = some v) (K : V D X cells slots (pc + 3) lv (v :: st) ws) : V D X cells slots pc lv (.ref a :: st) ws :=
  v_get (k := 6) (T := TX9) O inW9 rfl (by decide) (by rw [hm]; exact tw_397) rfl hdg q0 he hv K
theorem pf_X9_43 (O : Ok D X mt d kc ks) (hm : mt.1.cls = RX9) (hdg : decode mt.2.1 pc = .ok (.putfield 43, 3)) (q0 : Nat) {a : Nat} {fs fs' : List Value} {x : Int32} (he : ws[q0]? = some (a, .inr (9, fs))) (hlen : 6 < fs.length) (hfs : fs.set 6 (.int x) = fs') {ws' : va_W} (hws : ws.set q0 (a, .inr (9, fs')) = ws') (K : V D X cells slots (pc + 3) lv st ws') : V D X cells slots pc lv (.int x :: .ref a :: st) ws :=
  v_put (k := 6) (T := TX9) (ty := .int) O inW9 tyX9 tyX9_ok nmX9 rfl (by decide) (by rw [hm]; exact tw_397) rfl rfl (by decide +kernel) hdg q0 he rfl rfl hlen hfs hws K
theorem tw_398 : Cond.fieldLink RX9 50 "OneForDog" "now" "LOneForDog$Wakings;" ∈ Wd := wd_of 398 (by decide +kernel) (by decide +kernel)
theorem gf_X9_50 (O : Ok D X mt d kc ks) (hm : mt.1.cls = RX9) (hdg : decode mt.2.1 pc = .ok (.getfield 50, 3)) (q0 : Nat) {a : Nat} {fs : List Value} (he : ws[q0]? = some (a, .inr (9, fs))) {v : Value} (hv : fs[7]? = some v) (K : V D X cells slots (pc + 3) lv (v :: st) ws) : V D X cells slots pc lv (.ref a :: st) ws :=
  v_get (k := 7) (T := TX9) O inW9 rfl (by decide) (by rw [hm]; exact tw_398) rfl hdg q0 he hv K
theorem pf_X9_50 (O : Ok D X mt d kc ks) (hm : mt.1.cls = RX9) (hini : mt.1.name = "<init>") (hdg : decode mt.2.1 pc = .ok (.putfield 50, 3)) (q0 : Nat) {a : Nat} {fs fs' : List Value} {x : Nat} (he : ws[q0]? = some (a, .inr (9, fs))) (hlen : 7 < fs.length) (hfs : fs.set 7 (.ref x) = fs') {ws' : va_W} (hws : ws.set q0 (a, .inr (9, fs')) = ws') (K : V D X cells slots (pc + 3) lv st ws') : V D X cells slots pc lv (.ref x :: .ref a :: st) ws :=
  v_putF (k := 7) (T := TX9) (ty := .object "OneForDog$Wakings") O inW9 tyX9 tyX9_ok nmX9 rfl (by decide) (by rw [hm]; exact tw_398) rfl rfl hini (by rw [hm]; rfl) (by decide +kernel) hdg q0 he rfl rfl hlen hfs hws K
theorem tw_399 : Cond.fieldLink RX9 57 "OneForDog" "night" "LOneForDog$Night;" ∈ Wd := wd_of 399 (by decide +kernel) (by decide +kernel)
theorem gf_X9_57 (O : Ok D X mt d kc ks) (hm : mt.1.cls = RX9) (hdg : decode mt.2.1 pc = .ok (.getfield 57, 3)) (q0 : Nat) {a : Nat} {fs : List Value} (he : ws[q0]? = some (a, .inr (9, fs))) {v : Value} (hv : fs[8]? = some v) (K : V D X cells slots (pc + 3) lv (v :: st) ws) : V D X cells slots pc lv (.ref a :: st) ws :=
  v_get (k := 8) (T := TX9) O inW9 rfl (by decide) (by rw [hm]; exact tw_399) rfl hdg q0 he hv K
theorem pf_X9_57 (O : Ok D X mt d kc ks) (hm : mt.1.cls = RX9) (hini : mt.1.name = "<init>") (hdg : decode mt.2.1 pc = .ok (.putfield 57, 3)) (q0 : Nat) {a : Nat} {fs fs' : List Value} {x : Nat} (he : ws[q0]? = some (a, .inr (9, fs))) (hlen : 8 < fs.length) (hfs : fs.set 8 (.ref x) = fs') {ws' : va_W} (hws : ws.set q0 (a, .inr (9, fs')) = ws') (K : V D X cells slots (pc + 3) lv st ws') : V D X cells slots pc lv (.ref x :: .ref a :: st) ws :=
  v_putF (k := 8) (T := TX9) (ty := .object "OneForDog$Night") O inW9 tyX9 tyX9_ok nmX9 rfl (by decide) (by rw [hm]; exact tw_399) rfl rfl hini (by rw [hm]; rfl) (by decide +kernel) hdg q0 he rfl rfl hlen hfs hws K
theorem tw_400 : Cond.fieldLink RX9 64 "OneForDog" "roster" "LOneForDog$Roster;" ∈ Wd := wd_of 400 (by decide +kernel) (by decide +kernel)
theorem gf_X9_64 (O : Ok D X mt d kc ks) (hm : mt.1.cls = RX9) (hdg : decode mt.2.1 pc = .ok (.getfield 64, 3)) (q0 : Nat) {a : Nat} {fs : List Value} (he : ws[q0]? = some (a, .inr (9, fs))) {v : Value} (hv : fs[9]? = some v) (K : V D X cells slots (pc + 3) lv (v :: st) ws) : V D X cells slots pc lv (.ref a :: st) ws :=
  v_get (k := 9) (T := TX9) O inW9 rfl (by decide) (by rw [hm]; exact tw_400) rfl hdg q0 he hv K
theorem pf_X9_64 (O : Ok D X mt d kc ks) (hm : mt.1.cls = RX9) (hini : mt.1.name = "<init>") (hdg : decode mt.2.1 pc = .ok (.putfield 64, 3)) (q0 : Nat) {a : Nat} {fs fs' : List Value} {x : Nat} (he : ws[q0]? = some (a, .inr (9, fs))) (hlen : 9 < fs.length) (hfs : fs.set 9 (.ref x) = fs') {ws' : va_W} (hws : ws.set q0 (a, .inr (9, fs')) = ws') (K : V D X cells slots (pc + 3) lv st ws') : V D X cells slots pc lv (.ref x :: .ref a :: st) ws :=
  v_putF (k := 9) (T := TX9) (ty := .object "OneForDog$Roster") O inW9 tyX9 tyX9_ok nmX9 rfl (by decide) (by rw [hm]; exact tw_400) rfl rfl hini (by rw [hm]; rfl) (by decide +kernel) hdg q0 he rfl rfl hlen hfs hws K
theorem tw_401 : Cond.fieldLink RX9 71 "OneForDog" "longNumber" "LOneForDog$LongNumber;" ∈ Wd := wd_of 401 (by decide +kernel) (by decide +kernel)
theorem gf_X9_71 (O : Ok D X mt d kc ks) (hm : mt.1.cls = RX9) (hdg : decode mt.2.1 pc = .ok (.getfield 71, 3)) (q0 : Nat) {a : Nat} {fs : List Value} (he : ws[q0]? = some (a, .inr (9, fs))) {v : Value} (hv : fs[10]? = some v) (K : V D X cells slots (pc + 3) lv (v :: st) ws) : V D X cells slots pc lv (.ref a :: st) ws :=
  v_get (k := 10) (T := TX9) O inW9 rfl (by decide) (by rw [hm]; exact tw_401) rfl hdg q0 he hv K
theorem pf_X9_71 (O : Ok D X mt d kc ks) (hm : mt.1.cls = RX9) (hini : mt.1.name = "<init>") (hdg : decode mt.2.1 pc = .ok (.putfield 71, 3)) (q0 : Nat) {a : Nat} {fs fs' : List Value} {x : Nat} (he : ws[q0]? = some (a, .inr (9, fs))) (hlen : 10 < fs.length) (hfs : fs.set 10 (.ref x) = fs') {ws' : va_W} (hws : ws.set q0 (a, .inr (9, fs')) = ws') (K : V D X cells slots (pc + 3) lv st ws') : V D X cells slots pc lv (.ref x :: .ref a :: st) ws :=
  v_putF (k := 10) (T := TX9) (ty := .object "OneForDog$LongNumber") O inW9 tyX9 tyX9_ok nmX9 rfl (by decide) (by rw [hm]; exact tw_401) rfl rfl hini (by rw [hm]; rfl) (by decide +kernel) hdg q0 he rfl rfl hlen hfs hws K
theorem tw_402 : Cond.fieldLink RX9 78 "OneForDog" "bodies" "LOneForDog$Bodies;" ∈ Wd := wd_of 402 (by decide +kernel) (by decide +kernel)
theorem gf_X9_78 (O : Ok D X mt d kc ks) (hm : mt.1.cls = RX9) (hdg : decode mt.2.1 pc = .ok (.getfield 78, 3)) (q0 : Nat) {a : Nat} {fs : List Value} (he : ws[q0]? = some (a, .inr (9, fs))) {v : Value} (hv : fs[11]? = some v) (K : V D X cells slots (pc + 3) lv (v :: st) ws) : V D X cells slots pc lv (.ref a :: st) ws :=
  v_get (k := 11) (T := TX9) O inW9 rfl (by decide) (by rw [hm]; exact tw_402) rfl hdg q0 he hv K
theorem pf_X9_78 (O : Ok D X mt d kc ks) (hm : mt.1.cls = RX9) (hini : mt.1.name = "<init>") (hdg : decode mt.2.1 pc = .ok (.putfield 78, 3)) (q0 : Nat) {a : Nat} {fs fs' : List Value} {x : Nat} (he : ws[q0]? = some (a, .inr (9, fs))) (hlen : 11 < fs.length) (hfs : fs.set 11 (.ref x) = fs') {ws' : va_W} (hws : ws.set q0 (a, .inr (9, fs')) = ws') (K : V D X cells slots (pc + 3) lv st ws') : V D X cells slots pc lv (.ref x :: .ref a :: st) ws :=
  v_putF (k := 11) (T := TX9) (ty := .object "OneForDog$Bodies") O inW9 tyX9 tyX9_ok nmX9 rfl (by decide) (by rw [hm]; exact tw_402) rfl rfl hini (by rw [hm]; rfl) (by decide +kernel) hdg q0 he rfl rfl hlen hfs hws K
theorem tw_403 : Cond.fieldLink RX9 84 "OneForDog" "tapes" "[LOneForDog$Tape;" ∈ Wd := wd_of 403 (by decide +kernel) (by decide +kernel)
theorem gf_X9_84 (O : Ok D X mt d kc ks) (hm : mt.1.cls = RX9) (hdg : decode mt.2.1 pc = .ok (.getfield 84, 3)) (q0 : Nat) {a : Nat} {fs : List Value} (he : ws[q0]? = some (a, .inr (9, fs))) {v : Value} (hv : fs[12]? = some v) (K : V D X cells slots (pc + 3) lv (v :: st) ws) : V D X cells slots pc lv (.ref a :: st) ws :=
  v_get (k := 12) (T := TX9) O inW9 rfl (by decide) (by rw [hm]; exact tw_403) rfl hdg q0 he hv K
theorem pf_X9_84 (O : Ok D X mt d kc ks) (hm : mt.1.cls = RX9) (hini : mt.1.name = "<init>") (hdg : decode mt.2.1 pc = .ok (.putfield 84, 3)) (q0 : Nat) {a : Nat} {fs fs' : List Value} {x : Nat} (he : ws[q0]? = some (a, .inr (9, fs))) (hlen : 12 < fs.length) (hfs : fs.set 12 (.ref x) = fs') {ws' : va_W} (hws : ws.set q0 (a, .inr (9, fs')) = ws') (K : V D X cells slots (pc + 3) lv st ws') : V D X cells slots pc lv (.ref x :: .ref a :: st) ws :=
  v_putF (k := 12) (T := TX9) (ty := .array (.object "OneForDog$Tape")) O inW9 tyX9 tyX9_ok nmX9 rfl (by decide) (by rw [hm]; exact tw_403) rfl rfl hini (by rw [hm]; rfl) (by decide +kernel) hdg q0 he rfl rfl hlen hfs hws K
theorem tw_572 : Cond.fieldLink RJ0 38 "java/lang/String" "COMPACT_STRINGS" "Z" ∈ Wd := wd_of 572 (by decide +kernel) (by decide +kernel)
theorem tw_588 : Cond.fieldLink RJ0 1053 "jdk/internal/util/Preconditions" "SIOOBE_FORMATTER" "Ljava/util/function/BiFunction;" ∈ Wd := wd_of 588 (by decide +kernel) (by decide +kernel)
theorem tw_606 : Cond.fieldLink RJ2 44 "java/lang/StringUTF16" "$assertionsDisabled" "Z" ∈ Wd := wd_of 606 (by decide +kernel) (by decide +kernel)
theorem tw_608 : Cond.fieldLink RJ2 59 "java/lang/StringUTF16" "HI_BYTE_SHIFT" "I" ∈ Wd := wd_of 608 (by decide +kernel) (by decide +kernel)
theorem tw_610 : Cond.fieldLink RJ2 63 "java/lang/StringUTF16" "LO_BYTE_SHIFT" "I" ∈ Wd := wd_of 610 (by decide +kernel) (by decide +kernel)
theorem tw_886 : Cond.fieldLink RX0 51 "OneForDog$Bodies" "NUMBERS" "[I" ∈ Wd := wd_of 886 (by decide +kernel) (by decide +kernel)
theorem tw_891 : Cond.fieldLink RX9 308 "OneForDog" "ABOVE" "[I" ∈ Wd := wd_of 891 (by decide +kernel) (by decide +kernel)
theorem tw_968 : Cond.fieldLink RX10 7 "OneForDogModel" "men" "I" ∈ Wd := wd_of 968 (by decide +kernel) (by decide +kernel)
theorem gf_X10_7 (O : Ok D X mt d kc ks) (hm : mt.1.cls = RX10) (hdg : decode mt.2.1 pc = .ok (.getfield 7, 3)) (q0 : Nat) {a : Nat} {fs : List Value} (he : ws[q0]? = some (a, .inr (10, fs))) {v : Value} (hv : fs[0]? = some v) (K : V D X cells slots (pc + 3) lv (v :: st) ws) : V D X cells slots pc lv (.ref a :: st) ws :=
  v_get (k := 0) (T := TX10) O inW10 rfl (by decide) (by rw [hm]; exact tw_968) rfl hdg q0 he hv K
theorem pf_X10_7 (O : Ok D X mt d kc ks) (hm : mt.1.cls = RX10) (hdg : decode mt.2.1 pc = .ok (.putfield 7, 3)) (q0 : Nat) {a : Nat} {fs fs' : List Value} {x : Int32} (he : ws[q0]? = some (a, .inr (10, fs))) (hlen : 0 < fs.length) (hfs : fs.set 0 (.int x) = fs') {ws' : va_W} (hws : ws.set q0 (a, .inr (10, fs')) = ws') (K : V D X cells slots (pc + 3) lv st ws') : V D X cells slots pc lv (.int x :: .ref a :: st) ws :=
  v_put (k := 0) (T := TX10) (ty := .int) O inW10 tyX10 tyX10_ok nmX10 rfl (by decide) (by rw [hm]; exact tw_968) rfl rfl (by decide +kernel) hdg q0 he rfl rfl hlen hfs hws K
theorem tw_969 : Cond.fieldLink RX10 13 "OneForDogModel" "nuts" "I" ∈ Wd := wd_of 969 (by decide +kernel) (by decide +kernel)
theorem gf_X10_13 (O : Ok D X mt d kc ks) (hm : mt.1.cls = RX10) (hdg : decode mt.2.1 pc = .ok (.getfield 13, 3)) (q0 : Nat) {a : Nat} {fs : List Value} (he : ws[q0]? = some (a, .inr (10, fs))) {v : Value} (hv : fs[1]? = some v) (K : V D X cells slots (pc + 3) lv (v :: st) ws) : V D X cells slots pc lv (.ref a :: st) ws :=
  v_get (k := 1) (T := TX10) O inW10 rfl (by decide) (by rw [hm]; exact tw_969) rfl hdg q0 he hv K
theorem pf_X10_13 (O : Ok D X mt d kc ks) (hm : mt.1.cls = RX10) (hdg : decode mt.2.1 pc = .ok (.putfield 13, 3)) (q0 : Nat) {a : Nat} {fs fs' : List Value} {x : Int32} (he : ws[q0]? = some (a, .inr (10, fs))) (hlen : 1 < fs.length) (hfs : fs.set 1 (.int x) = fs') {ws' : va_W} (hws : ws.set q0 (a, .inr (10, fs')) = ws') (K : V D X cells slots (pc + 3) lv st ws') : V D X cells slots pc lv (.int x :: .ref a :: st) ws :=
  v_put (k := 1) (T := TX10) (ty := .int) O inW10 tyX10 tyX10_ok nmX10 rfl (by decide) (by rw [hm]; exact tw_969) rfl rfl (by decide +kernel) hdg q0 he rfl rfl hlen hfs hws K
theorem tw_970 : Cond.fieldLink RX10 16 "OneForDogModel" "dog" "I" ∈ Wd := wd_of 970 (by decide +kernel) (by decide +kernel)
theorem gf_X10_16 (O : Ok D X mt d kc ks) (hm : mt.1.cls = RX10) (hdg : decode mt.2.1 pc = .ok (.getfield 16, 3)) (q0 : Nat) {a : Nat} {fs : List Value} (he : ws[q0]? = some (a, .inr (10, fs))) {v : Value} (hv : fs[2]? = some v) (K : V D X cells slots (pc + 3) lv (v :: st) ws) : V D X cells slots pc lv (.ref a :: st) ws :=
  v_get (k := 2) (T := TX10) O inW10 rfl (by decide) (by rw [hm]; exact tw_970) rfl hdg q0 he hv K
theorem pf_X10_16 (O : Ok D X mt d kc ks) (hm : mt.1.cls = RX10) (hdg : decode mt.2.1 pc = .ok (.putfield 16, 3)) (q0 : Nat) {a : Nat} {fs fs' : List Value} {x : Int32} (he : ws[q0]? = some (a, .inr (10, fs))) (hlen : 2 < fs.length) (hfs : fs.set 2 (.int x) = fs') {ws' : va_W} (hws : ws.set q0 (a, .inr (10, fs')) = ws') (K : V D X cells slots (pc + 3) lv st ws') : V D X cells slots pc lv (.int x :: .ref a :: st) ws :=
  v_put (k := 2) (T := TX10) (ty := .int) O inW10 tyX10 tyX10_ok nmX10 rfl (by decide) (by rw [hm]; exact tw_970) rfl rfl (by decide +kernel) hdg q0 he rfl rfl hlen hfs hws K
theorem tw_971 : Cond.fieldLink RX10 19 "OneForDogModel" "wakings" "I" ∈ Wd := wd_of 971 (by decide +kernel) (by decide +kernel)
theorem gf_X10_19 (O : Ok D X mt d kc ks) (hm : mt.1.cls = RX10) (hdg : decode mt.2.1 pc = .ok (.getfield 19, 3)) (q0 : Nat) {a : Nat} {fs : List Value} (he : ws[q0]? = some (a, .inr (10, fs))) {v : Value} (hv : fs[3]? = some v) (K : V D X cells slots (pc + 3) lv (v :: st) ws) : V D X cells slots pc lv (.ref a :: st) ws :=
  v_get (k := 3) (T := TX10) O inW10 rfl (by decide) (by rw [hm]; exact tw_971) rfl hdg q0 he hv K
theorem pf_X10_19 (O : Ok D X mt d kc ks) (hm : mt.1.cls = RX10) (hdg : decode mt.2.1 pc = .ok (.putfield 19, 3)) (q0 : Nat) {a : Nat} {fs fs' : List Value} {x : Int32} (he : ws[q0]? = some (a, .inr (10, fs))) (hlen : 3 < fs.length) (hfs : fs.set 3 (.int x) = fs') {ws' : va_W} (hws : ws.set q0 (a, .inr (10, fs')) = ws') (K : V D X cells slots (pc + 3) lv st ws') : V D X cells slots pc lv (.int x :: .ref a :: st) ws :=
  v_put (k := 3) (T := TX10) (ty := .int) O inW10 tyX10 tyX10_ok nmX10 rfl (by decide) (by rw [hm]; exact tw_971) rfl rfl (by decide +kernel) hdg q0 he rfl rfl hlen hfs hws K
theorem tw_972 : Cond.fieldLink RX10 22 "OneForDogModel" "kind" "[I" ∈ Wd := wd_of 972 (by decide +kernel) (by decide +kernel)
theorem gf_X10_22 (O : Ok D X mt d kc ks) (hm : mt.1.cls = RX10) (hdg : decode mt.2.1 pc = .ok (.getfield 22, 3)) (q0 : Nat) {a : Nat} {fs : List Value} (he : ws[q0]? = some (a, .inr (10, fs))) {v : Value} (hv : fs[4]? = some v) (K : V D X cells slots (pc + 3) lv (v :: st) ws) : V D X cells slots pc lv (.ref a :: st) ws :=
  v_get (k := 4) (T := TX10) O inW10 rfl (by decide) (by rw [hm]; exact tw_972) rfl hdg q0 he hv K
theorem pf_X10_22 (O : Ok D X mt d kc ks) (hm : mt.1.cls = RX10) (hini : mt.1.name = "<init>") (hdg : decode mt.2.1 pc = .ok (.putfield 22, 3)) (q0 : Nat) {a : Nat} {fs fs' : List Value} {x : Nat} (he : ws[q0]? = some (a, .inr (10, fs))) (hlen : 4 < fs.length) (hfs : fs.set 4 (.ref x) = fs') {ws' : va_W} (hws : ws.set q0 (a, .inr (10, fs')) = ws') (K : V D X cells slots (pc + 3) lv st ws') : V D X cells slots pc lv (.ref x :: .ref a :: st) ws :=
  v_putF (k := 4) (T := TX10) (ty := .array .int) O inW10 tyX10 tyX10_ok nmX10 rfl (by decide) (by rw [hm]; exact tw_972) rfl rfl hini (by rw [hm]; rfl) (by decide +kernel) hdg q0 he rfl rfl hlen hfs hws K
theorem tw_973 : Cond.fieldLink RX10 26 "OneForDogModel" "v" "[I" ∈ Wd := wd_of 973 (by decide +kernel) (by decide +kernel)
theorem gf_X10_26 (O : Ok D X mt d kc ks) (hm : mt.1.cls = RX10) (hdg : decode mt.2.1 pc = .ok (.getfield 26, 3)) (q0 : Nat) {a : Nat} {fs : List Value} (he : ws[q0]? = some (a, .inr (10, fs))) {v : Value} (hv : fs[5]? = some v) (K : V D X cells slots (pc + 3) lv (v :: st) ws) : V D X cells slots pc lv (.ref a :: st) ws :=
  v_get (k := 5) (T := TX10) O inW10 rfl (by decide) (by rw [hm]; exact tw_973) rfl hdg q0 he hv K
theorem pf_X10_26 (O : Ok D X mt d kc ks) (hm : mt.1.cls = RX10) (hini : mt.1.name = "<init>") (hdg : decode mt.2.1 pc = .ok (.putfield 26, 3)) (q0 : Nat) {a : Nat} {fs fs' : List Value} {x : Nat} (he : ws[q0]? = some (a, .inr (10, fs))) (hlen : 5 < fs.length) (hfs : fs.set 5 (.ref x) = fs') {ws' : va_W} (hws : ws.set q0 (a, .inr (10, fs')) = ws') (K : V D X cells slots (pc + 3) lv st ws') : V D X cells slots pc lv (.ref x :: .ref a :: st) ws :=
  v_putF (k := 5) (T := TX10) (ty := .array .int) O inW10 tyX10 tyX10_ok nmX10 rfl (by decide) (by rw [hm]; exact tw_973) rfl rfl hini (by rw [hm]; rfl) (by decide +kernel) hdg q0 he rfl rfl hlen hfs hws K
theorem tw_974 : Cond.fieldLink RX10 29 "OneForDogModel" "hidden" "[I" ∈ Wd := wd_of 974 (by decide +kernel) (by decide +kernel)
theorem gf_X10_29 (O : Ok D X mt d kc ks) (hm : mt.1.cls = RX10) (hdg : decode mt.2.1 pc = .ok (.getfield 29, 3)) (q0 : Nat) {a : Nat} {fs : List Value} (he : ws[q0]? = some (a, .inr (10, fs))) {v : Value} (hv : fs[6]? = some v) (K : V D X cells slots (pc + 3) lv (v :: st) ws) : V D X cells slots pc lv (.ref a :: st) ws :=
  v_get (k := 6) (T := TX10) O inW10 rfl (by decide) (by rw [hm]; exact tw_974) rfl hdg q0 he hv K
theorem pf_X10_29 (O : Ok D X mt d kc ks) (hm : mt.1.cls = RX10) (hini : mt.1.name = "<init>") (hdg : decode mt.2.1 pc = .ok (.putfield 29, 3)) (q0 : Nat) {a : Nat} {fs fs' : List Value} {x : Nat} (he : ws[q0]? = some (a, .inr (10, fs))) (hlen : 6 < fs.length) (hfs : fs.set 6 (.ref x) = fs') {ws' : va_W} (hws : ws.set q0 (a, .inr (10, fs')) = ws') (K : V D X cells slots (pc + 3) lv st ws') : V D X cells slots pc lv (.ref x :: .ref a :: st) ws :=
  v_putF (k := 6) (T := TX10) (ty := .array .int) O inW10 tyX10 tyX10_ok nmX10 rfl (by decide) (by rw [hm]; exact tw_974) rfl rfl hini (by rw [hm]; rfl) (by decide +kernel) hdg q0 he rfl rfl hlen hfs hws K
theorem tw_975 : Cond.fieldLink RX10 32 "OneForDogModel" "villages" "I" ∈ Wd := wd_of 975 (by decide +kernel) (by decide +kernel)
theorem gf_X10_32 (O : Ok D X mt d kc ks) (hm : mt.1.cls = RX10) (hdg : decode mt.2.1 pc = .ok (.getfield 32, 3)) (q0 : Nat) {a : Nat} {fs : List Value} (he : ws[q0]? = some (a, .inr (10, fs))) {v : Value} (hv : fs[7]? = some v) (K : V D X cells slots (pc + 3) lv (v :: st) ws) : V D X cells slots pc lv (.ref a :: st) ws :=
  v_get (k := 7) (T := TX10) O inW10 rfl (by decide) (by rw [hm]; exact tw_975) rfl hdg q0 he hv K
theorem pf_X10_32 (O : Ok D X mt d kc ks) (hm : mt.1.cls = RX10) (hdg : decode mt.2.1 pc = .ok (.putfield 32, 3)) (q0 : Nat) {a : Nat} {fs fs' : List Value} {x : Int32} (he : ws[q0]? = some (a, .inr (10, fs))) (hlen : 7 < fs.length) (hfs : fs.set 7 (.int x) = fs') {ws' : va_W} (hws : ws.set q0 (a, .inr (10, fs')) = ws') (K : V D X cells slots (pc + 3) lv st ws') : V D X cells slots pc lv (.int x :: .ref a :: st) ws :=
  v_put (k := 7) (T := TX10) (ty := .int) O inW10 tyX10 tyX10_ok nmX10 rfl (by decide) (by rw [hm]; exact tw_975) rfl rfl (by decide +kernel) hdg q0 he rfl rfl hlen hfs hws K
theorem tw_976 : Cond.fieldLink RX10 35 "OneForDogModel" "the" "I" ∈ Wd := wd_of 976 (by decide +kernel) (by decide +kernel)
theorem gf_X10_35 (O : Ok D X mt d kc ks) (hm : mt.1.cls = RX10) (hdg : decode mt.2.1 pc = .ok (.getfield 35, 3)) (q0 : Nat) {a : Nat} {fs : List Value} (he : ws[q0]? = some (a, .inr (10, fs))) {v : Value} (hv : fs[8]? = some v) (K : V D X cells slots (pc + 3) lv (v :: st) ws) : V D X cells slots pc lv (.ref a :: st) ws :=
  v_get (k := 8) (T := TX10) O inW10 rfl (by decide) (by rw [hm]; exact tw_976) rfl hdg q0 he hv K
theorem pf_X10_35 (O : Ok D X mt d kc ks) (hm : mt.1.cls = RX10) (hdg : decode mt.2.1 pc = .ok (.putfield 35, 3)) (q0 : Nat) {a : Nat} {fs fs' : List Value} {x : Int32} (he : ws[q0]? = some (a, .inr (10, fs))) (hlen : 8 < fs.length) (hfs : fs.set 8 (.int x) = fs') {ws' : va_W} (hws : ws.set q0 (a, .inr (10, fs')) = ws') (K : V D X cells slots (pc + 3) lv st ws') : V D X cells slots pc lv (.int x :: .ref a :: st) ws :=
  v_put (k := 8) (T := TX10) (ty := .int) O inW10 tyX10 tyX10_ok nmX10 rfl (by decide) (by rw [hm]; exact tw_976) rfl rfl (by decide +kernel) hdg q0 he rfl rfl hlen hfs hws K
theorem tw_977 : Cond.fieldLink RX10 38 "OneForDogModel" "fed" "I" ∈ Wd := wd_of 977 (by decide +kernel) (by decide +kernel)
theorem gf_X10_38 (O : Ok D X mt d kc ks) (hm : mt.1.cls = RX10) (hdg : decode mt.2.1 pc = .ok (.getfield 38, 3)) (q0 : Nat) {a : Nat} {fs : List Value} (he : ws[q0]? = some (a, .inr (10, fs))) {v : Value} (hv : fs[9]? = some v) (K : V D X cells slots (pc + 3) lv (v :: st) ws) : V D X cells slots pc lv (.ref a :: st) ws :=
  v_get (k := 9) (T := TX10) O inW10 rfl (by decide) (by rw [hm]; exact tw_977) rfl hdg q0 he hv K
theorem pf_X10_38 (O : Ok D X mt d kc ks) (hm : mt.1.cls = RX10) (hdg : decode mt.2.1 pc = .ok (.putfield 38, 3)) (q0 : Nat) {a : Nat} {fs fs' : List Value} {x : Int32} (he : ws[q0]? = some (a, .inr (10, fs))) (hlen : 9 < fs.length) (hfs : fs.set 9 (.int x) = fs') {ws' : va_W} (hws : ws.set q0 (a, .inr (10, fs')) = ws') (K : V D X cells slots (pc + 3) lv st ws') : V D X cells slots pc lv (.int x :: .ref a :: st) ws :=
  v_put (k := 9) (T := TX10) (ty := .int) O inW10 tyX10 tyX10_ok nmX10 rfl (by decide) (by rw [hm]; exact tw_977) rfl rfl (by decide +kernel) hdg q0 he rfl rfl hlen hfs hws K
theorem tw_978 : Cond.fieldLink RX10 41 "OneForDogModel" "at" "I" ∈ Wd := wd_of 978 (by decide +kernel) (by decide +kernel)
theorem gf_X10_41 (O : Ok D X mt d kc ks) (hm : mt.1.cls = RX10) (hdg : decode mt.2.1 pc = .ok (.getfield 41, 3)) (q0 : Nat) {a : Nat} {fs : List Value} (he : ws[q0]? = some (a, .inr (10, fs))) {v : Value} (hv : fs[10]? = some v) (K : V D X cells slots (pc + 3) lv (v :: st) ws) : V D X cells slots pc lv (.ref a :: st) ws :=
  v_get (k := 10) (T := TX10) O inW10 rfl (by decide) (by rw [hm]; exact tw_978) rfl hdg q0 he hv K
theorem pf_X10_41 (O : Ok D X mt d kc ks) (hm : mt.1.cls = RX10) (hdg : decode mt.2.1 pc = .ok (.putfield 41, 3)) (q0 : Nat) {a : Nat} {fs fs' : List Value} {x : Int32} (he : ws[q0]? = some (a, .inr (10, fs))) (hlen : 10 < fs.length) (hfs : fs.set 10 (.int x) = fs') {ws' : va_W} (hws : ws.set q0 (a, .inr (10, fs')) = ws') (K : V D X cells slots (pc + 3) lv st ws') : V D X cells slots pc lv (.int x :: .ref a :: st) ws :=
  v_put (k := 10) (T := TX10) (ty := .int) O inW10 tyX10 tyX10_ok nmX10 rfl (by decide) (by rw [hm]; exact tw_978) rfl rfl (by decide +kernel) hdg q0 he rfl rfl hlen hfs hws K
theorem tw_979 : Cond.fieldLink RX10 44 "OneForDogModel" "digits" "I" ∈ Wd := wd_of 979 (by decide +kernel) (by decide +kernel)
theorem gf_X10_44 (O : Ok D X mt d kc ks) (hm : mt.1.cls = RX10) (hdg : decode mt.2.1 pc = .ok (.getfield 44, 3)) (q0 : Nat) {a : Nat} {fs : List Value} (he : ws[q0]? = some (a, .inr (10, fs))) {v : Value} (hv : fs[11]? = some v) (K : V D X cells slots (pc + 3) lv (v :: st) ws) : V D X cells slots pc lv (.ref a :: st) ws :=
  v_get (k := 11) (T := TX10) O inW10 rfl (by decide) (by rw [hm]; exact tw_979) rfl hdg q0 he hv K
theorem pf_X10_44 (O : Ok D X mt d kc ks) (hm : mt.1.cls = RX10) (hdg : decode mt.2.1 pc = .ok (.putfield 44, 3)) (q0 : Nat) {a : Nat} {fs fs' : List Value} {x : Int32} (he : ws[q0]? = some (a, .inr (10, fs))) (hlen : 11 < fs.length) (hfs : fs.set 11 (.int x) = fs') {ws' : va_W} (hws : ws.set q0 (a, .inr (10, fs')) = ws') (K : V D X cells slots (pc + 3) lv st ws') : V D X cells slots pc lv (.int x :: .ref a :: st) ws :=
  v_put (k := 11) (T := TX10) (ty := .int) O inW10 tyX10 tyX10_ok nmX10 rfl (by decide) (by rw [hm]; exact tw_979) rfl rfl (by decide +kernel) hdg q0 he rfl rfl hlen hfs hws K
theorem tw_980 : Cond.fieldLink RX10 47 "OneForDogModel" "text" "[I" ∈ Wd := wd_of 980 (by decide +kernel) (by decide +kernel)
theorem gf_X10_47 (O : Ok D X mt d kc ks) (hm : mt.1.cls = RX10) (hdg : decode mt.2.1 pc = .ok (.getfield 47, 3)) (q0 : Nat) {a : Nat} {fs : List Value} (he : ws[q0]? = some (a, .inr (10, fs))) {v : Value} (hv : fs[12]? = some v) (K : V D X cells slots (pc + 3) lv (v :: st) ws) : V D X cells slots pc lv (.ref a :: st) ws :=
  v_get (k := 12) (T := TX10) O inW10 rfl (by decide) (by rw [hm]; exact tw_980) rfl hdg q0 he hv K
theorem pf_X10_47 (O : Ok D X mt d kc ks) (hm : mt.1.cls = RX10) (hini : mt.1.name = "<init>") (hdg : decode mt.2.1 pc = .ok (.putfield 47, 3)) (q0 : Nat) {a : Nat} {fs fs' : List Value} {x : Nat} (he : ws[q0]? = some (a, .inr (10, fs))) (hlen : 12 < fs.length) (hfs : fs.set 12 (.ref x) = fs') {ws' : va_W} (hws : ws.set q0 (a, .inr (10, fs')) = ws') (K : V D X cells slots (pc + 3) lv st ws') : V D X cells slots pc lv (.ref x :: .ref a :: st) ws :=
  v_putF (k := 12) (T := TX10) (ty := .array .int) O inW10 tyX10 tyX10_ok nmX10 rfl (by decide) (by rw [hm]; exact tw_980) rfl rfl hini (by rw [hm]; rfl) (by decide +kernel) hdg q0 he rfl rfl hlen hfs hws K
theorem tw_981 : Cond.fieldLink RX10 50 "OneForDogModel" "clauses" "[I" ∈ Wd := wd_of 981 (by decide +kernel) (by decide +kernel)
theorem gf_X10_50 (O : Ok D X mt d kc ks) (hm : mt.1.cls = RX10) (hdg : decode mt.2.1 pc = .ok (.getfield 50, 3)) (q0 : Nat) {a : Nat} {fs : List Value} (he : ws[q0]? = some (a, .inr (10, fs))) {v : Value} (hv : fs[13]? = some v) (K : V D X cells slots (pc + 3) lv (v :: st) ws) : V D X cells slots pc lv (.ref a :: st) ws :=
  v_get (k := 13) (T := TX10) O inW10 rfl (by decide) (by rw [hm]; exact tw_981) rfl hdg q0 he hv K
theorem pf_X10_50 (O : Ok D X mt d kc ks) (hm : mt.1.cls = RX10) (hini : mt.1.name = "<init>") (hdg : decode mt.2.1 pc = .ok (.putfield 50, 3)) (q0 : Nat) {a : Nat} {fs fs' : List Value} {x : Nat} (he : ws[q0]? = some (a, .inr (10, fs))) (hlen : 13 < fs.length) (hfs : fs.set 13 (.ref x) = fs') {ws' : va_W} (hws : ws.set q0 (a, .inr (10, fs')) = ws') (K : V D X cells slots (pc + 3) lv st ws') : V D X cells slots pc lv (.ref x :: .ref a :: st) ws :=
  v_putF (k := 13) (T := TX10) (ty := .array .int) O inW10 tyX10 tyX10_ok nmX10 rfl (by decide) (by rw [hm]; exact tw_981) rfl rfl hini (by rw [hm]; rfl) (by decide +kernel) hdg q0 he rfl rfl hlen hfs hws K
theorem tw_982 : Cond.fieldLink RX10 53 "OneForDogModel" "word" "[I" ∈ Wd := wd_of 982 (by decide +kernel) (by decide +kernel)
theorem gf_X10_53 (O : Ok D X mt d kc ks) (hm : mt.1.cls = RX10) (hdg : decode mt.2.1 pc = .ok (.getfield 53, 3)) (q0 : Nat) {a : Nat} {fs : List Value} (he : ws[q0]? = some (a, .inr (10, fs))) {v : Value} (hv : fs[14]? = some v) (K : V D X cells slots (pc + 3) lv (v :: st) ws) : V D X cells slots pc lv (.ref a :: st) ws :=
  v_get (k := 14) (T := TX10) O inW10 rfl (by decide) (by rw [hm]; exact tw_982) rfl hdg q0 he hv K
theorem pf_X10_53 (O : Ok D X mt d kc ks) (hm : mt.1.cls = RX10) (hini : mt.1.name = "<init>") (hdg : decode mt.2.1 pc = .ok (.putfield 53, 3)) (q0 : Nat) {a : Nat} {fs fs' : List Value} {x : Nat} (he : ws[q0]? = some (a, .inr (10, fs))) (hlen : 14 < fs.length) (hfs : fs.set 14 (.ref x) = fs') {ws' : va_W} (hws : ws.set q0 (a, .inr (10, fs')) = ws') (K : V D X cells slots (pc + 3) lv st ws') : V D X cells slots pc lv (.ref x :: .ref a :: st) ws :=
  v_putF (k := 14) (T := TX10) (ty := .array .int) O inW10 tyX10 tyX10_ok nmX10 rfl (by decide) (by rw [hm]; exact tw_982) rfl rfl hini (by rw [hm]; rfl) (by decide +kernel) hdg q0 he rfl rfl hlen hfs hws K
theorem tw_983 : Cond.fieldLink RX10 56 "OneForDogModel" "number" "[I" ∈ Wd := wd_of 983 (by decide +kernel) (by decide +kernel)
theorem gf_X10_56 (O : Ok D X mt d kc ks) (hm : mt.1.cls = RX10) (hdg : decode mt.2.1 pc = .ok (.getfield 56, 3)) (q0 : Nat) {a : Nat} {fs : List Value} (he : ws[q0]? = some (a, .inr (10, fs))) {v : Value} (hv : fs[15]? = some v) (K : V D X cells slots (pc + 3) lv (v :: st) ws) : V D X cells slots pc lv (.ref a :: st) ws :=
  v_get (k := 15) (T := TX10) O inW10 rfl (by decide) (by rw [hm]; exact tw_983) rfl hdg q0 he hv K
theorem pf_X10_56 (O : Ok D X mt d kc ks) (hm : mt.1.cls = RX10) (hini : mt.1.name = "<init>") (hdg : decode mt.2.1 pc = .ok (.putfield 56, 3)) (q0 : Nat) {a : Nat} {fs fs' : List Value} {x : Nat} (he : ws[q0]? = some (a, .inr (10, fs))) (hlen : 15 < fs.length) (hfs : fs.set 15 (.ref x) = fs') {ws' : va_W} (hws : ws.set q0 (a, .inr (10, fs')) = ws') (K : V D X cells slots (pc + 3) lv st ws') : V D X cells slots pc lv (.ref x :: .ref a :: st) ws :=
  v_putF (k := 15) (T := TX10) (ty := .array .int) O inW10 tyX10 tyX10_ok nmX10 rfl (by decide) (by rw [hm]; exact tw_983) rfl rfl hini (by rw [hm]; rfl) (by decide +kernel) hdg q0 he rfl rfl hlen hfs hws K
theorem tw_984 : Cond.fieldLink RX10 59 "OneForDogModel" "from" "[I" ∈ Wd := wd_of 984 (by decide +kernel) (by decide +kernel)
theorem gf_X10_59 (O : Ok D X mt d kc ks) (hm : mt.1.cls = RX10) (hdg : decode mt.2.1 pc = .ok (.getfield 59, 3)) (q0 : Nat) {a : Nat} {fs : List Value} (he : ws[q0]? = some (a, .inr (10, fs))) {v : Value} (hv : fs[16]? = some v) (K : V D X cells slots (pc + 3) lv (v :: st) ws) : V D X cells slots pc lv (.ref a :: st) ws :=
  v_get (k := 16) (T := TX10) O inW10 rfl (by decide) (by rw [hm]; exact tw_984) rfl hdg q0 he hv K
theorem pf_X10_59 (O : Ok D X mt d kc ks) (hm : mt.1.cls = RX10) (hini : mt.1.name = "<init>") (hdg : decode mt.2.1 pc = .ok (.putfield 59, 3)) (q0 : Nat) {a : Nat} {fs fs' : List Value} {x : Nat} (he : ws[q0]? = some (a, .inr (10, fs))) (hlen : 16 < fs.length) (hfs : fs.set 16 (.ref x) = fs') {ws' : va_W} (hws : ws.set q0 (a, .inr (10, fs')) = ws') (K : V D X cells slots (pc + 3) lv st ws') : V D X cells slots pc lv (.ref x :: .ref a :: st) ws :=
  v_putF (k := 16) (T := TX10) (ty := .array .int) O inW10 tyX10 tyX10_ok nmX10 rfl (by decide) (by rw [hm]; exact tw_984) rfl rfl hini (by rw [hm]; rfl) (by decide +kernel) hdg q0 he rfl rfl hlen hfs hws K
theorem tw_985 : Cond.fieldLink RX10 62 "OneForDogModel" "to" "[I" ∈ Wd := wd_of 985 (by decide +kernel) (by decide +kernel)
theorem gf_X10_62 (O : Ok D X mt d kc ks) (hm : mt.1.cls = RX10) (hdg : decode mt.2.1 pc = .ok (.getfield 62, 3)) (q0 : Nat) {a : Nat} {fs : List Value} (he : ws[q0]? = some (a, .inr (10, fs))) {v : Value} (hv : fs[17]? = some v) (K : V D X cells slots (pc + 3) lv (v :: st) ws) : V D X cells slots pc lv (.ref a :: st) ws :=
  v_get (k := 17) (T := TX10) O inW10 rfl (by decide) (by rw [hm]; exact tw_985) rfl hdg q0 he hv K
theorem pf_X10_62 (O : Ok D X mt d kc ks) (hm : mt.1.cls = RX10) (hini : mt.1.name = "<init>") (hdg : decode mt.2.1 pc = .ok (.putfield 62, 3)) (q0 : Nat) {a : Nat} {fs fs' : List Value} {x : Nat} (he : ws[q0]? = some (a, .inr (10, fs))) (hlen : 17 < fs.length) (hfs : fs.set 17 (.ref x) = fs') {ws' : va_W} (hws : ws.set q0 (a, .inr (10, fs')) = ws') (K : V D X cells slots (pc + 3) lv st ws') : V D X cells slots pc lv (.ref x :: .ref a :: st) ws :=
  v_putF (k := 17) (T := TX10) (ty := .array .int) O inW10 tyX10 tyX10_ok nmX10 rfl (by decide) (by rw [hm]; exact tw_985) rfl rfl hini (by rw [hm]; rfl) (by decide +kernel) hdg q0 he rfl rfl hlen hfs hws K
theorem tw_986 : Cond.fieldLink RX10 65 "OneForDogModel" "sign" "[I" ∈ Wd := wd_of 986 (by decide +kernel) (by decide +kernel)
theorem gf_X10_65 (O : Ok D X mt d kc ks) (hm : mt.1.cls = RX10) (hdg : decode mt.2.1 pc = .ok (.getfield 65, 3)) (q0 : Nat) {a : Nat} {fs : List Value} (he : ws[q0]? = some (a, .inr (10, fs))) {v : Value} (hv : fs[18]? = some v) (K : V D X cells slots (pc + 3) lv (v :: st) ws) : V D X cells slots pc lv (.ref a :: st) ws :=
  v_get (k := 18) (T := TX10) O inW10 rfl (by decide) (by rw [hm]; exact tw_986) rfl hdg q0 he hv K
theorem pf_X10_65 (O : Ok D X mt d kc ks) (hm : mt.1.cls = RX10) (hini : mt.1.name = "<init>") (hdg : decode mt.2.1 pc = .ok (.putfield 65, 3)) (q0 : Nat) {a : Nat} {fs fs' : List Value} {x : Nat} (he : ws[q0]? = some (a, .inr (10, fs))) (hlen : 18 < fs.length) (hfs : fs.set 18 (.ref x) = fs') {ws' : va_W} (hws : ws.set q0 (a, .inr (10, fs')) = ws') (K : V D X cells slots (pc + 3) lv st ws') : V D X cells slots pc lv (.ref x :: .ref a :: st) ws :=
  v_putF (k := 18) (T := TX10) (ty := .array .int) O inW10 tyX10 tyX10_ok nmX10 rfl (by decide) (by rw [hm]; exact tw_986) rfl rfl hini (by rw [hm]; rfl) (by decide +kernel) hdg q0 he rfl rfl hlen hfs hws K
theorem tw_987 : Cond.fieldLink RX10 68 "OneForDogModel" "waits" "[I" ∈ Wd := wd_of 987 (by decide +kernel) (by decide +kernel)
theorem gf_X10_68 (O : Ok D X mt d kc ks) (hm : mt.1.cls = RX10) (hdg : decode mt.2.1 pc = .ok (.getfield 68, 3)) (q0 : Nat) {a : Nat} {fs : List Value} (he : ws[q0]? = some (a, .inr (10, fs))) {v : Value} (hv : fs[19]? = some v) (K : V D X cells slots (pc + 3) lv (v :: st) ws) : V D X cells slots pc lv (.ref a :: st) ws :=
  v_get (k := 19) (T := TX10) O inW10 rfl (by decide) (by rw [hm]; exact tw_987) rfl hdg q0 he hv K
theorem pf_X10_68 (O : Ok D X mt d kc ks) (hm : mt.1.cls = RX10) (hini : mt.1.name = "<init>") (hdg : decode mt.2.1 pc = .ok (.putfield 68, 3)) (q0 : Nat) {a : Nat} {fs fs' : List Value} {x : Nat} (he : ws[q0]? = some (a, .inr (10, fs))) (hlen : 19 < fs.length) (hfs : fs.set 19 (.ref x) = fs') {ws' : va_W} (hws : ws.set q0 (a, .inr (10, fs')) = ws') (K : V D X cells slots (pc + 3) lv st ws') : V D X cells slots pc lv (.ref x :: .ref a :: st) ws :=
  v_putF (k := 19) (T := TX10) (ty := .array .int) O inW10 tyX10 tyX10_ok nmX10 rfl (by decide) (by rw [hm]; exact tw_987) rfl rfl hini (by rw [hm]; rfl) (by decide +kernel) hdg q0 he rfl rfl hlen hfs hws K
theorem tw_988 : Cond.fieldLink RX10 71 "OneForDogModel" "signs" "I" ∈ Wd := wd_of 988 (by decide +kernel) (by decide +kernel)
theorem gf_X10_71 (O : Ok D X mt d kc ks) (hm : mt.1.cls = RX10) (hdg : decode mt.2.1 pc = .ok (.getfield 71, 3)) (q0 : Nat) {a : Nat} {fs : List Value} (he : ws[q0]? = some (a, .inr (10, fs))) {v : Value} (hv : fs[20]? = some v) (K : V D X cells slots (pc + 3) lv (v :: st) ws) : V D X cells slots pc lv (.ref a :: st) ws :=
  v_get (k := 20) (T := TX10) O inW10 rfl (by decide) (by rw [hm]; exact tw_988) rfl hdg q0 he hv K
theorem pf_X10_71 (O : Ok D X mt d kc ks) (hm : mt.1.cls = RX10) (hdg : decode mt.2.1 pc = .ok (.putfield 71, 3)) (q0 : Nat) {a : Nat} {fs fs' : List Value} {x : Int32} (he : ws[q0]? = some (a, .inr (10, fs))) (hlen : 20 < fs.length) (hfs : fs.set 20 (.int x) = fs') {ws' : va_W} (hws : ws.set q0 (a, .inr (10, fs')) = ws') (K : V D X cells slots (pc + 3) lv st ws') : V D X cells slots pc lv (.int x :: .ref a :: st) ws :=
  v_put (k := 20) (T := TX10) (ty := .int) O inW10 tyX10 tyX10_ok nmX10 rfl (by decide) (by rw [hm]; exact tw_988) rfl rfl (by decide +kernel) hdg q0 he rfl rfl hlen hfs hws K
theorem tw_989 : Cond.fieldLink RX10 74 "OneForDogModel" "waiting" "I" ∈ Wd := wd_of 989 (by decide +kernel) (by decide +kernel)
theorem gf_X10_74 (O : Ok D X mt d kc ks) (hm : mt.1.cls = RX10) (hdg : decode mt.2.1 pc = .ok (.getfield 74, 3)) (q0 : Nat) {a : Nat} {fs : List Value} (he : ws[q0]? = some (a, .inr (10, fs))) {v : Value} (hv : fs[21]? = some v) (K : V D X cells slots (pc + 3) lv (v :: st) ws) : V D X cells slots pc lv (.ref a :: st) ws :=
  v_get (k := 21) (T := TX10) O inW10 rfl (by decide) (by rw [hm]; exact tw_989) rfl hdg q0 he hv K
theorem pf_X10_74 (O : Ok D X mt d kc ks) (hm : mt.1.cls = RX10) (hdg : decode mt.2.1 pc = .ok (.putfield 74, 3)) (q0 : Nat) {a : Nat} {fs fs' : List Value} {x : Int32} (he : ws[q0]? = some (a, .inr (10, fs))) (hlen : 21 < fs.length) (hfs : fs.set 21 (.int x) = fs') {ws' : va_W} (hws : ws.set q0 (a, .inr (10, fs')) = ws') (K : V D X cells slots (pc + 3) lv st ws') : V D X cells slots pc lv (.int x :: .ref a :: st) ws :=
  v_put (k := 21) (T := TX10) (ty := .int) O inW10 tyX10 tyX10_ok nmX10 rfl (by decide) (by rw [hm]; exact tw_989) rfl rfl (by decide +kernel) hdg q0 he rfl rfl hlen hfs hws K
theorem tw_990 : Cond.fieldLink RX10 77 "OneForDogModel" "open" "I" ∈ Wd := wd_of 990 (by decide +kernel) (by decide +kernel)
theorem gf_X10_77 (O : Ok D X mt d kc ks) (hm : mt.1.cls = RX10) (hdg : decode mt.2.1 pc = .ok (.getfield 77, 3)) (q0 : Nat) {a : Nat} {fs : List Value} (he : ws[q0]? = some (a, .inr (10, fs))) {v : Value} (hv : fs[22]? = some v) (K : V D X cells slots (pc + 3) lv (v :: st) ws) : V D X cells slots pc lv (.ref a :: st) ws :=
  v_get (k := 22) (T := TX10) O inW10 rfl (by decide) (by rw [hm]; exact tw_990) rfl hdg q0 he hv K
theorem pf_X10_77 (O : Ok D X mt d kc ks) (hm : mt.1.cls = RX10) (hdg : decode mt.2.1 pc = .ok (.putfield 77, 3)) (q0 : Nat) {a : Nat} {fs fs' : List Value} {x : Int32} (he : ws[q0]? = some (a, .inr (10, fs))) (hlen : 22 < fs.length) (hfs : fs.set 22 (.int x) = fs') {ws' : va_W} (hws : ws.set q0 (a, .inr (10, fs')) = ws') (K : V D X cells slots (pc + 3) lv st ws') : V D X cells slots pc lv (.int x :: .ref a :: st) ws :=
  v_put (k := 22) (T := TX10) (ty := .int) O inW10 tyX10 tyX10_ok nmX10 rfl (by decide) (by rw [hm]; exact tw_990) rfl rfl (by decide +kernel) hdg q0 he rfl rfl hlen hfs hws K
theorem tw_991 : Cond.fieldLink RX10 80 "OneForDogModel" "letters" "[I" ∈ Wd := wd_of 991 (by decide +kernel) (by decide +kernel)
theorem gf_X10_80 (O : Ok D X mt d kc ks) (hm : mt.1.cls = RX10) (hdg : decode mt.2.1 pc = .ok (.getfield 80, 3)) (q0 : Nat) {a : Nat} {fs : List Value} (he : ws[q0]? = some (a, .inr (10, fs))) {v : Value} (hv : fs[23]? = some v) (K : V D X cells slots (pc + 3) lv (v :: st) ws) : V D X cells slots pc lv (.ref a :: st) ws :=
  v_get (k := 23) (T := TX10) O inW10 rfl (by decide) (by rw [hm]; exact tw_991) rfl hdg q0 he hv K
theorem pf_X10_80 (O : Ok D X mt d kc ks) (hm : mt.1.cls = RX10) (hini : mt.1.name = "<init>") (hdg : decode mt.2.1 pc = .ok (.putfield 80, 3)) (q0 : Nat) {a : Nat} {fs fs' : List Value} {x : Nat} (he : ws[q0]? = some (a, .inr (10, fs))) (hlen : 23 < fs.length) (hfs : fs.set 23 (.ref x) = fs') {ws' : va_W} (hws : ws.set q0 (a, .inr (10, fs')) = ws') (K : V D X cells slots (pc + 3) lv st ws') : V D X cells slots pc lv (.ref x :: .ref a :: st) ws :=
  v_putF (k := 23) (T := TX10) (ty := .array .int) O inW10 tyX10 tyX10_ok nmX10 rfl (by decide) (by rw [hm]; exact tw_991) rfl rfl hini (by rw [hm]; rfl) (by decide +kernel) hdg q0 he rfl rfl hlen hfs hws K
theorem tw_992 : Cond.fieldLink RX10 83 "OneForDogModel" "pile" "[Z" ∈ Wd := wd_of 992 (by decide +kernel) (by decide +kernel)
theorem gf_X10_83 (O : Ok D X mt d kc ks) (hm : mt.1.cls = RX10) (hdg : decode mt.2.1 pc = .ok (.getfield 83, 3)) (q0 : Nat) {a : Nat} {fs : List Value} (he : ws[q0]? = some (a, .inr (10, fs))) {v : Value} (hv : fs[24]? = some v) (K : V D X cells slots (pc + 3) lv (v :: st) ws) : V D X cells slots pc lv (.ref a :: st) ws :=
  v_get (k := 24) (T := TX10) O inW10 rfl (by decide) (by rw [hm]; exact tw_992) rfl hdg q0 he hv K
theorem pf_X10_83 (O : Ok D X mt d kc ks) (hm : mt.1.cls = RX10) (hini : mt.1.name = "<init>") (hdg : decode mt.2.1 pc = .ok (.putfield 83, 3)) (q0 : Nat) {a : Nat} {fs fs' : List Value} {x : Nat} (he : ws[q0]? = some (a, .inr (10, fs))) (hlen : 24 < fs.length) (hfs : fs.set 24 (.ref x) = fs') {ws' : va_W} (hws : ws.set q0 (a, .inr (10, fs')) = ws') (K : V D X cells slots (pc + 3) lv st ws') : V D X cells slots pc lv (.ref x :: .ref a :: st) ws :=
  v_putF (k := 24) (T := TX10) (ty := .array .boolean) O inW10 tyX10 tyX10_ok nmX10 rfl (by decide) (by rw [hm]; exact tw_992) rfl rfl hini (by rw [hm]; rfl) (by decide +kernel) hdg q0 he rfl rfl hlen hfs hws K
theorem tw_993 : Cond.fieldLink RX10 87 "OneForDogModel" "then" "I" ∈ Wd := wd_of 993 (by decide +kernel) (by decide +kernel)
theorem gf_X10_87 (O : Ok D X mt d kc ks) (hm : mt.1.cls = RX10) (hdg : decode mt.2.1 pc = .ok (.getfield 87, 3)) (q0 : Nat) {a : Nat} {fs : List Value} (he : ws[q0]? = some (a, .inr (10, fs))) {v : Value} (hv : fs[25]? = some v) (K : V D X cells slots (pc + 3) lv (v :: st) ws) : V D X cells slots pc lv (.ref a :: st) ws :=
  v_get (k := 25) (T := TX10) O inW10 rfl (by decide) (by rw [hm]; exact tw_993) rfl hdg q0 he hv K
theorem pf_X10_87 (O : Ok D X mt d kc ks) (hm : mt.1.cls = RX10) (hdg : decode mt.2.1 pc = .ok (.putfield 87, 3)) (q0 : Nat) {a : Nat} {fs fs' : List Value} {x : Int32} (he : ws[q0]? = some (a, .inr (10, fs))) (hlen : 25 < fs.length) (hfs : fs.set 25 (.int x) = fs') {ws' : va_W} (hws : ws.set q0 (a, .inr (10, fs')) = ws') (K : V D X cells slots (pc + 3) lv st ws') : V D X cells slots pc lv (.int x :: .ref a :: st) ws :=
  v_put (k := 25) (T := TX10) (ty := .int) O inW10 tyX10 tyX10_ok nmX10 rfl (by decide) (by rw [hm]; exact tw_993) rfl rfl (by decide +kernel) hdg q0 he rfl rfl hlen hfs hws K
theorem tw_994 : Cond.fieldLink RX10 90 "OneForDogModel" "given" "I" ∈ Wd := wd_of 994 (by decide +kernel) (by decide +kernel)
theorem gf_X10_90 (O : Ok D X mt d kc ks) (hm : mt.1.cls = RX10) (hdg : decode mt.2.1 pc = .ok (.getfield 90, 3)) (q0 : Nat) {a : Nat} {fs : List Value} (he : ws[q0]? = some (a, .inr (10, fs))) {v : Value} (hv : fs[26]? = some v) (K : V D X cells slots (pc + 3) lv (v :: st) ws) : V D X cells slots pc lv (.ref a :: st) ws :=
  v_get (k := 26) (T := TX10) O inW10 rfl (by decide) (by rw [hm]; exact tw_994) rfl hdg q0 he hv K
theorem pf_X10_90 (O : Ok D X mt d kc ks) (hm : mt.1.cls = RX10) (hdg : decode mt.2.1 pc = .ok (.putfield 90, 3)) (q0 : Nat) {a : Nat} {fs fs' : List Value} {x : Int32} (he : ws[q0]? = some (a, .inr (10, fs))) (hlen : 26 < fs.length) (hfs : fs.set 26 (.int x) = fs') {ws' : va_W} (hws : ws.set q0 (a, .inr (10, fs')) = ws') (K : V D X cells slots (pc + 3) lv st ws') : V D X cells slots pc lv (.int x :: .ref a :: st) ws :=
  v_put (k := 26) (T := TX10) (ty := .int) O inW10 tyX10 tyX10_ok nmX10 rfl (by decide) (by rw [hm]; exact tw_994) rfl rfl (by decide +kernel) hdg q0 he rfl rfl hlen hfs hws K
theorem tw_995 : Cond.fieldLink RX10 93 "OneForDogModel" "hides" "I" ∈ Wd := wd_of 995 (by decide +kernel) (by decide +kernel)
theorem gf_X10_93 (O : Ok D X mt d kc ks) (hm : mt.1.cls = RX10) (hdg : decode mt.2.1 pc = .ok (.getfield 93, 3)) (q0 : Nat) {a : Nat} {fs : List Value} (he : ws[q0]? = some (a, .inr (10, fs))) {v : Value} (hv : fs[27]? = some v) (K : V D X cells slots (pc + 3) lv (v :: st) ws) : V D X cells slots pc lv (.ref a :: st) ws :=
  v_get (k := 27) (T := TX10) O inW10 rfl (by decide) (by rw [hm]; exact tw_995) rfl hdg q0 he hv K
theorem pf_X10_93 (O : Ok D X mt d kc ks) (hm : mt.1.cls = RX10) (hdg : decode mt.2.1 pc = .ok (.putfield 93, 3)) (q0 : Nat) {a : Nat} {fs fs' : List Value} {x : Int32} (he : ws[q0]? = some (a, .inr (10, fs))) (hlen : 27 < fs.length) (hfs : fs.set 27 (.int x) = fs') {ws' : va_W} (hws : ws.set q0 (a, .inr (10, fs')) = ws') (K : V D X cells slots (pc + 3) lv st ws') : V D X cells slots pc lv (.int x :: .ref a :: st) ws :=
  v_put (k := 27) (T := TX10) (ty := .int) O inW10 tyX10 tyX10_ok nmX10 rfl (by decide) (by rw [hm]; exact tw_995) rfl rfl (by decide +kernel) hdg q0 he rfl rfl hlen hfs hws K
theorem tw_996 : Cond.fieldLink RX10 96 "OneForDogModel" "rows" "I" ∈ Wd := wd_of 996 (by decide +kernel) (by decide +kernel)
theorem gf_X10_96 (O : Ok D X mt d kc ks) (hm : mt.1.cls = RX10) (hdg : decode mt.2.1 pc = .ok (.getfield 96, 3)) (q0 : Nat) {a : Nat} {fs : List Value} (he : ws[q0]? = some (a, .inr (10, fs))) {v : Value} (hv : fs[28]? = some v) (K : V D X cells slots (pc + 3) lv (v :: st) ws) : V D X cells slots pc lv (.ref a :: st) ws :=
  v_get (k := 28) (T := TX10) O inW10 rfl (by decide) (by rw [hm]; exact tw_996) rfl hdg q0 he hv K
theorem pf_X10_96 (O : Ok D X mt d kc ks) (hm : mt.1.cls = RX10) (hdg : decode mt.2.1 pc = .ok (.putfield 96, 3)) (q0 : Nat) {a : Nat} {fs fs' : List Value} {x : Int32} (he : ws[q0]? = some (a, .inr (10, fs))) (hlen : 28 < fs.length) (hfs : fs.set 28 (.int x) = fs') {ws' : va_W} (hws : ws.set q0 (a, .inr (10, fs')) = ws') (K : V D X cells slots (pc + 3) lv st ws') : V D X cells slots pc lv (.int x :: .ref a :: st) ws :=
  v_put (k := 28) (T := TX10) (ty := .int) O inW10 tyX10 tyX10_ok nmX10 rfl (by decide) (by rw [hm]; exact tw_996) rfl rfl (by decide +kernel) hdg q0 he rfl rfl hlen hfs hws K
theorem tw_997 : Cond.fieldLink RX10 99 "OneForDogModel" "dogBy" "I" ∈ Wd := wd_of 997 (by decide +kernel) (by decide +kernel)
theorem gf_X10_99 (O : Ok D X mt d kc ks) (hm : mt.1.cls = RX10) (hdg : decode mt.2.1 pc = .ok (.getfield 99, 3)) (q0 : Nat) {a : Nat} {fs : List Value} (he : ws[q0]? = some (a, .inr (10, fs))) {v : Value} (hv : fs[29]? = some v) (K : V D X cells slots (pc + 3) lv (v :: st) ws) : V D X cells slots pc lv (.ref a :: st) ws :=
  v_get (k := 29) (T := TX10) O inW10 rfl (by decide) (by rw [hm]; exact tw_997) rfl hdg q0 he hv K
theorem pf_X10_99 (O : Ok D X mt d kc ks) (hm : mt.1.cls = RX10) (hdg : decode mt.2.1 pc = .ok (.putfield 99, 3)) (q0 : Nat) {a : Nat} {fs fs' : List Value} {x : Int32} (he : ws[q0]? = some (a, .inr (10, fs))) (hlen : 29 < fs.length) (hfs : fs.set 29 (.int x) = fs') {ws' : va_W} (hws : ws.set q0 (a, .inr (10, fs')) = ws') (K : V D X cells slots (pc + 3) lv st ws') : V D X cells slots pc lv (.int x :: .ref a :: st) ws :=
  v_put (k := 29) (T := TX10) (ty := .int) O inW10 tyX10 tyX10_ok nmX10 rfl (by decide) (by rw [hm]; exact tw_997) rfl rfl (by decide +kernel) hdg q0 he rfl rfl hlen hfs hws K
theorem tw_998 : Cond.fieldLink RX10 102 "OneForDogModel" "rowMan" "[I" ∈ Wd := wd_of 998 (by decide +kernel) (by decide +kernel)
theorem gf_X10_102 (O : Ok D X mt d kc ks) (hm : mt.1.cls = RX10) (hdg : decode mt.2.1 pc = .ok (.getfield 102, 3)) (q0 : Nat) {a : Nat} {fs : List Value} (he : ws[q0]? = some (a, .inr (10, fs))) {v : Value} (hv : fs[30]? = some v) (K : V D X cells slots (pc + 3) lv (v :: st) ws) : V D X cells slots pc lv (.ref a :: st) ws :=
  v_get (k := 30) (T := TX10) O inW10 rfl (by decide) (by rw [hm]; exact tw_998) rfl hdg q0 he hv K
theorem pf_X10_102 (O : Ok D X mt d kc ks) (hm : mt.1.cls = RX10) (hini : mt.1.name = "<init>") (hdg : decode mt.2.1 pc = .ok (.putfield 102, 3)) (q0 : Nat) {a : Nat} {fs fs' : List Value} {x : Nat} (he : ws[q0]? = some (a, .inr (10, fs))) (hlen : 30 < fs.length) (hfs : fs.set 30 (.ref x) = fs') {ws' : va_W} (hws : ws.set q0 (a, .inr (10, fs')) = ws') (K : V D X cells slots (pc + 3) lv st ws') : V D X cells slots pc lv (.ref x :: .ref a :: st) ws :=
  v_putF (k := 30) (T := TX10) (ty := .array .int) O inW10 tyX10 tyX10_ok nmX10 rfl (by decide) (by rw [hm]; exact tw_998) rfl rfl hini (by rw [hm]; rfl) (by decide +kernel) hdg q0 he rfl rfl hlen hfs hws K
theorem tw_999 : Cond.fieldLink RX10 105 "OneForDogModel" "hidBy" "[I" ∈ Wd := wd_of 999 (by decide +kernel) (by decide +kernel)
theorem gf_X10_105 (O : Ok D X mt d kc ks) (hm : mt.1.cls = RX10) (hdg : decode mt.2.1 pc = .ok (.getfield 105, 3)) (q0 : Nat) {a : Nat} {fs : List Value} (he : ws[q0]? = some (a, .inr (10, fs))) {v : Value} (hv : fs[31]? = some v) (K : V D X cells slots (pc + 3) lv (v :: st) ws) : V D X cells slots pc lv (.ref a :: st) ws :=
  v_get (k := 31) (T := TX10) O inW10 rfl (by decide) (by rw [hm]; exact tw_999) rfl hdg q0 he hv K
theorem pf_X10_105 (O : Ok D X mt d kc ks) (hm : mt.1.cls = RX10) (hini : mt.1.name = "<init>") (hdg : decode mt.2.1 pc = .ok (.putfield 105, 3)) (q0 : Nat) {a : Nat} {fs fs' : List Value} {x : Nat} (he : ws[q0]? = some (a, .inr (10, fs))) (hlen : 31 < fs.length) (hfs : fs.set 31 (.ref x) = fs') {ws' : va_W} (hws : ws.set q0 (a, .inr (10, fs')) = ws') (K : V D X cells slots (pc + 3) lv st ws') : V D X cells slots pc lv (.ref x :: .ref a :: st) ws :=
  v_putF (k := 31) (T := TX10) (ty := .array .int) O inW10 tyX10 tyX10_ok nmX10 rfl (by decide) (by rw [hm]; exact tw_999) rfl rfl hini (by rw [hm]; rfl) (by decide +kernel) hdg q0 he rfl rfl hlen hfs hws K
theorem tw_1000 : Cond.fieldLink RX10 108 "OneForDogModel" "up" "[I" ∈ Wd := wd_of 1000 (by decide +kernel) (by decide +kernel)
theorem gf_X10_108 (O : Ok D X mt d kc ks) (hm : mt.1.cls = RX10) (hdg : decode mt.2.1 pc = .ok (.getfield 108, 3)) (q0 : Nat) {a : Nat} {fs : List Value} (he : ws[q0]? = some (a, .inr (10, fs))) {v : Value} (hv : fs[32]? = some v) (K : V D X cells slots (pc + 3) lv (v :: st) ws) : V D X cells slots pc lv (.ref a :: st) ws :=
  v_get (k := 32) (T := TX10) O inW10 rfl (by decide) (by rw [hm]; exact tw_1000) rfl hdg q0 he hv K
theorem pf_X10_108 (O : Ok D X mt d kc ks) (hm : mt.1.cls = RX10) (hini : mt.1.name = "<init>") (hdg : decode mt.2.1 pc = .ok (.putfield 108, 3)) (q0 : Nat) {a : Nat} {fs fs' : List Value} {x : Nat} (he : ws[q0]? = some (a, .inr (10, fs))) (hlen : 32 < fs.length) (hfs : fs.set 32 (.ref x) = fs') {ws' : va_W} (hws : ws.set q0 (a, .inr (10, fs')) = ws') (K : V D X cells slots (pc + 3) lv st ws') : V D X cells slots pc lv (.ref x :: .ref a :: st) ws :=
  v_putF (k := 32) (T := TX10) (ty := .array .int) O inW10 tyX10 tyX10_ok nmX10 rfl (by decide) (by rw [hm]; exact tw_1000) rfl rfl hini (by rw [hm]; rfl) (by decide +kernel) hdg q0 he rfl rfl hlen hfs hws K
theorem tw_1001 : Cond.fieldLink RX10 111 "OneForDogModel" "digit" "[I" ∈ Wd := wd_of 1001 (by decide +kernel) (by decide +kernel)
theorem gf_X10_111 (O : Ok D X mt d kc ks) (hm : mt.1.cls = RX10) (hdg : decode mt.2.1 pc = .ok (.getfield 111, 3)) (q0 : Nat) {a : Nat} {fs : List Value} (he : ws[q0]? = some (a, .inr (10, fs))) {v : Value} (hv : fs[33]? = some v) (K : V D X cells slots (pc + 3) lv (v :: st) ws) : V D X cells slots pc lv (.ref a :: st) ws :=
  v_get (k := 33) (T := TX10) O inW10 rfl (by decide) (by rw [hm]; exact tw_1001) rfl hdg q0 he hv K
theorem pf_X10_111 (O : Ok D X mt d kc ks) (hm : mt.1.cls = RX10) (hini : mt.1.name = "<init>") (hdg : decode mt.2.1 pc = .ok (.putfield 111, 3)) (q0 : Nat) {a : Nat} {fs fs' : List Value} {x : Nat} (he : ws[q0]? = some (a, .inr (10, fs))) (hlen : 33 < fs.length) (hfs : fs.set 33 (.ref x) = fs') {ws' : va_W} (hws : ws.set q0 (a, .inr (10, fs')) = ws') (K : V D X cells slots (pc + 3) lv st ws') : V D X cells slots pc lv (.ref x :: .ref a :: st) ws :=
  v_putF (k := 33) (T := TX10) (ty := .array .int) O inW10 tyX10 tyX10_ok nmX10 rfl (by decide) (by rw [hm]; exact tw_1001) rfl rfl hini (by rw [hm]; rfl) (by decide +kernel) hdg q0 he rfl rfl hlen hfs hws K
theorem tw_1002 : Cond.fieldLink RX10 114 "OneForDogModel" "books" "I" ∈ Wd := wd_of 1002 (by decide +kernel) (by decide +kernel)
theorem gf_X10_114 (O : Ok D X mt d kc ks) (hm : mt.1.cls = RX10) (hdg : decode mt.2.1 pc = .ok (.getfield 114, 3)) (q0 : Nat) {a : Nat} {fs : List Value} (he : ws[q0]? = some (a, .inr (10, fs))) {v : Value} (hv : fs[34]? = some v) (K : V D X cells slots (pc + 3) lv (v :: st) ws) : V D X cells slots pc lv (.ref a :: st) ws :=
  v_get (k := 34) (T := TX10) O inW10 rfl (by decide) (by rw [hm]; exact tw_1002) rfl hdg q0 he hv K
theorem pf_X10_114 (O : Ok D X mt d kc ks) (hm : mt.1.cls = RX10) (hdg : decode mt.2.1 pc = .ok (.putfield 114, 3)) (q0 : Nat) {a : Nat} {fs fs' : List Value} {x : Int32} (he : ws[q0]? = some (a, .inr (10, fs))) (hlen : 34 < fs.length) (hfs : fs.set 34 (.int x) = fs') {ws' : va_W} (hws : ws.set q0 (a, .inr (10, fs')) = ws') (K : V D X cells slots (pc + 3) lv st ws') : V D X cells slots pc lv (.int x :: .ref a :: st) ws :=
  v_put (k := 34) (T := TX10) (ty := .int) O inW10 tyX10 tyX10_ok nmX10 rfl (by decide) (by rw [hm]; exact tw_1002) rfl rfl (by decide +kernel) hdg q0 he rfl rfl hlen hfs hws K
theorem tw_1003 : Cond.fieldLink RX10 117 "OneForDogModel" "book" "[I" ∈ Wd := wd_of 1003 (by decide +kernel) (by decide +kernel)
theorem gf_X10_117 (O : Ok D X mt d kc ks) (hm : mt.1.cls = RX10) (hdg : decode mt.2.1 pc = .ok (.getfield 117, 3)) (q0 : Nat) {a : Nat} {fs : List Value} (he : ws[q0]? = some (a, .inr (10, fs))) {v : Value} (hv : fs[35]? = some v) (K : V D X cells slots (pc + 3) lv (v :: st) ws) : V D X cells slots pc lv (.ref a :: st) ws :=
  v_get (k := 35) (T := TX10) O inW10 rfl (by decide) (by rw [hm]; exact tw_1003) rfl hdg q0 he hv K
theorem pf_X10_117 (O : Ok D X mt d kc ks) (hm : mt.1.cls = RX10) (hini : mt.1.name = "<init>") (hdg : decode mt.2.1 pc = .ok (.putfield 117, 3)) (q0 : Nat) {a : Nat} {fs fs' : List Value} {x : Nat} (he : ws[q0]? = some (a, .inr (10, fs))) (hlen : 35 < fs.length) (hfs : fs.set 35 (.ref x) = fs') {ws' : va_W} (hws : ws.set q0 (a, .inr (10, fs')) = ws') (K : V D X cells slots (pc + 3) lv st ws') : V D X cells slots pc lv (.ref x :: .ref a :: st) ws :=
  v_putF (k := 35) (T := TX10) (ty := .array .int) O inW10 tyX10 tyX10_ok nmX10 rfl (by decide) (by rw [hm]; exact tw_1003) rfl rfl hini (by rw [hm]; rfl) (by decide +kernel) hdg q0 he rfl rfl hlen hfs hws K
theorem tw_1004 : Cond.fieldLink RX10 120 "OneForDogModel" "hasImage" "Z" ∈ Wd := wd_of 1004 (by decide +kernel) (by decide +kernel)
theorem gf_X10_120 (O : Ok D X mt d kc ks) (hm : mt.1.cls = RX10) (hdg : decode mt.2.1 pc = .ok (.getfield 120, 3)) (q0 : Nat) {a : Nat} {fs : List Value} (he : ws[q0]? = some (a, .inr (10, fs))) {v : Value} (hv : fs[36]? = some v) (K : V D X cells slots (pc + 3) lv (v :: st) ws) : V D X cells slots pc lv (.ref a :: st) ws :=
  v_get (k := 36) (T := TX10) O inW10 rfl (by decide) (by rw [hm]; exact tw_1004) rfl hdg q0 he hv K
theorem pf_X10_120 (O : Ok D X mt d kc ks) (hm : mt.1.cls = RX10) (hdg : decode mt.2.1 pc = .ok (.putfield 120, 3)) (q0 : Nat) {a : Nat} {fs fs' : List Value} {x : Int32} (he : ws[q0]? = some (a, .inr (10, fs))) (hn : narrow .boolean (.int x) = .int x) (hfit : fits .boolean (.int x) = true) (hlen : 36 < fs.length) (hfs : fs.set 36 (.int x) = fs') {ws' : va_W} (hws : ws.set q0 (a, .inr (10, fs')) = ws') (K : V D X cells slots (pc + 3) lv st ws') : V D X cells slots pc lv (.int x :: .ref a :: st) ws :=
  v_put (k := 36) (T := TX10) (ty := .boolean) O inW10 tyX10 tyX10_ok nmX10 rfl (by decide) (by rw [hm]; exact tw_1004) rfl rfl (by decide +kernel) hdg q0 he hn hfit hlen hfs hws K
theorem tw_1005 : Cond.fieldLink RX10 124 "OneForDogModel" "imageThe" "I" ∈ Wd := wd_of 1005 (by decide +kernel) (by decide +kernel)
theorem gf_X10_124 (O : Ok D X mt d kc ks) (hm : mt.1.cls = RX10) (hdg : decode mt.2.1 pc = .ok (.getfield 124, 3)) (q0 : Nat) {a : Nat} {fs : List Value} (he : ws[q0]? = some (a, .inr (10, fs))) {v : Value} (hv : fs[37]? = some v) (K : V D X cells slots (pc + 3) lv (v :: st) ws) : V D X cells slots pc lv (.ref a :: st) ws :=
  v_get (k := 37) (T := TX10) O inW10 rfl (by decide) (by rw [hm]; exact tw_1005) rfl hdg q0 he hv K
theorem pf_X10_124 (O : Ok D X mt d kc ks) (hm : mt.1.cls = RX10) (hdg : decode mt.2.1 pc = .ok (.putfield 124, 3)) (q0 : Nat) {a : Nat} {fs fs' : List Value} {x : Int32} (he : ws[q0]? = some (a, .inr (10, fs))) (hlen : 37 < fs.length) (hfs : fs.set 37 (.int x) = fs') {ws' : va_W} (hws : ws.set q0 (a, .inr (10, fs')) = ws') (K : V D X cells slots (pc + 3) lv st ws') : V D X cells slots pc lv (.int x :: .ref a :: st) ws :=
  v_put (k := 37) (T := TX10) (ty := .int) O inW10 tyX10 tyX10_ok nmX10 rfl (by decide) (by rw [hm]; exact tw_1005) rfl rfl (by decide +kernel) hdg q0 he rfl rfl hlen hfs hws K
theorem tw_1006 : Cond.fieldLink RX10 127 "OneForDogModel" "imageMen" "I" ∈ Wd := wd_of 1006 (by decide +kernel) (by decide +kernel)
theorem gf_X10_127 (O : Ok D X mt d kc ks) (hm : mt.1.cls = RX10) (hdg : decode mt.2.1 pc = .ok (.getfield 127, 3)) (q0 : Nat) {a : Nat} {fs : List Value} (he : ws[q0]? = some (a, .inr (10, fs))) {v : Value} (hv : fs[38]? = some v) (K : V D X cells slots (pc + 3) lv (v :: st) ws) : V D X cells slots pc lv (.ref a :: st) ws :=
  v_get (k := 38) (T := TX10) O inW10 rfl (by decide) (by rw [hm]; exact tw_1006) rfl hdg q0 he hv K
theorem pf_X10_127 (O : Ok D X mt d kc ks) (hm : mt.1.cls = RX10) (hdg : decode mt.2.1 pc = .ok (.putfield 127, 3)) (q0 : Nat) {a : Nat} {fs fs' : List Value} {x : Int32} (he : ws[q0]? = some (a, .inr (10, fs))) (hlen : 38 < fs.length) (hfs : fs.set 38 (.int x) = fs') {ws' : va_W} (hws : ws.set q0 (a, .inr (10, fs')) = ws') (K : V D X cells slots (pc + 3) lv st ws') : V D X cells slots pc lv (.int x :: .ref a :: st) ws :=
  v_put (k := 38) (T := TX10) (ty := .int) O inW10 tyX10 tyX10_ok nmX10 rfl (by decide) (by rw [hm]; exact tw_1006) rfl rfl (by decide +kernel) hdg q0 he rfl rfl hlen hfs hws K
theorem tw_1007 : Cond.fieldLink RX10 130 "OneForDogModel" "imageNuts" "I" ∈ Wd := wd_of 1007 (by decide +kernel) (by decide +kernel)
theorem gf_X10_130 (O : Ok D X mt d kc ks) (hm : mt.1.cls = RX10) (hdg : decode mt.2.1 pc = .ok (.getfield 130, 3)) (q0 : Nat) {a : Nat} {fs : List Value} (he : ws[q0]? = some (a, .inr (10, fs))) {v : Value} (hv : fs[39]? = some v) (K : V D X cells slots (pc + 3) lv (v :: st) ws) : V D X cells slots pc lv (.ref a :: st) ws :=
  v_get (k := 39) (T := TX10) O inW10 rfl (by decide) (by rw [hm]; exact tw_1007) rfl hdg q0 he hv K
theorem pf_X10_130 (O : Ok D X mt d kc ks) (hm : mt.1.cls = RX10) (hdg : decode mt.2.1 pc = .ok (.putfield 130, 3)) (q0 : Nat) {a : Nat} {fs fs' : List Value} {x : Int32} (he : ws[q0]? = some (a, .inr (10, fs))) (hlen : 39 < fs.length) (hfs : fs.set 39 (.int x) = fs') {ws' : va_W} (hws : ws.set q0 (a, .inr (10, fs')) = ws') (K : V D X cells slots (pc + 3) lv st ws') : V D X cells slots pc lv (.int x :: .ref a :: st) ws :=
  v_put (k := 39) (T := TX10) (ty := .int) O inW10 tyX10 tyX10_ok nmX10 rfl (by decide) (by rw [hm]; exact tw_1007) rfl rfl (by decide +kernel) hdg q0 he rfl rfl hlen hfs hws K
theorem tw_1008 : Cond.fieldLink RX10 133 "OneForDogModel" "imageDog" "I" ∈ Wd := wd_of 1008 (by decide +kernel) (by decide +kernel)
theorem gf_X10_133 (O : Ok D X mt d kc ks) (hm : mt.1.cls = RX10) (hdg : decode mt.2.1 pc = .ok (.getfield 133, 3)) (q0 : Nat) {a : Nat} {fs : List Value} (he : ws[q0]? = some (a, .inr (10, fs))) {v : Value} (hv : fs[40]? = some v) (K : V D X cells slots (pc + 3) lv (v :: st) ws) : V D X cells slots pc lv (.ref a :: st) ws :=
  v_get (k := 40) (T := TX10) O inW10 rfl (by decide) (by rw [hm]; exact tw_1008) rfl hdg q0 he hv K
theorem pf_X10_133 (O : Ok D X mt d kc ks) (hm : mt.1.cls = RX10) (hdg : decode mt.2.1 pc = .ok (.putfield 133, 3)) (q0 : Nat) {a : Nat} {fs fs' : List Value} {x : Int32} (he : ws[q0]? = some (a, .inr (10, fs))) (hlen : 40 < fs.length) (hfs : fs.set 40 (.int x) = fs') {ws' : va_W} (hws : ws.set q0 (a, .inr (10, fs')) = ws') (K : V D X cells slots (pc + 3) lv st ws') : V D X cells slots pc lv (.int x :: .ref a :: st) ws :=
  v_put (k := 40) (T := TX10) (ty := .int) O inW10 tyX10 tyX10_ok nmX10 rfl (by decide) (by rw [hm]; exact tw_1008) rfl rfl (by decide +kernel) hdg q0 he rfl rfl hlen hfs hws K
theorem tw_1009 : Cond.fieldLink RX10 136 "OneForDogModel" "imageWakings" "I" ∈ Wd := wd_of 1009 (by decide +kernel) (by decide +kernel)
theorem gf_X10_136 (O : Ok D X mt d kc ks) (hm : mt.1.cls = RX10) (hdg : decode mt.2.1 pc = .ok (.getfield 136, 3)) (q0 : Nat) {a : Nat} {fs : List Value} (he : ws[q0]? = some (a, .inr (10, fs))) {v : Value} (hv : fs[41]? = some v) (K : V D X cells slots (pc + 3) lv (v :: st) ws) : V D X cells slots pc lv (.ref a :: st) ws :=
  v_get (k := 41) (T := TX10) O inW10 rfl (by decide) (by rw [hm]; exact tw_1009) rfl hdg q0 he hv K
theorem pf_X10_136 (O : Ok D X mt d kc ks) (hm : mt.1.cls = RX10) (hdg : decode mt.2.1 pc = .ok (.putfield 136, 3)) (q0 : Nat) {a : Nat} {fs fs' : List Value} {x : Int32} (he : ws[q0]? = some (a, .inr (10, fs))) (hlen : 41 < fs.length) (hfs : fs.set 41 (.int x) = fs') {ws' : va_W} (hws : ws.set q0 (a, .inr (10, fs')) = ws') (K : V D X cells slots (pc + 3) lv st ws') : V D X cells slots pc lv (.int x :: .ref a :: st) ws :=
  v_put (k := 41) (T := TX10) (ty := .int) O inW10 tyX10 tyX10_ok nmX10 rfl (by decide) (by rw [hm]; exact tw_1009) rfl rfl (by decide +kernel) hdg q0 he rfl rfl hlen hfs hws K
theorem tw_1010 : Cond.fieldLink RX10 139 "OneForDogModel" "imageRows" "I" ∈ Wd := wd_of 1010 (by decide +kernel) (by decide +kernel)
theorem gf_X10_139 (O : Ok D X mt d kc ks) (hm : mt.1.cls = RX10) (hdg : decode mt.2.1 pc = .ok (.getfield 139, 3)) (q0 : Nat) {a : Nat} {fs : List Value} (he : ws[q0]? = some (a, .inr (10, fs))) {v : Value} (hv : fs[42]? = some v) (K : V D X cells slots (pc + 3) lv (v :: st) ws) : V D X cells slots pc lv (.ref a :: st) ws :=
  v_get (k := 42) (T := TX10) O inW10 rfl (by decide) (by rw [hm]; exact tw_1010) rfl hdg q0 he hv K
theorem pf_X10_139 (O : Ok D X mt d kc ks) (hm : mt.1.cls = RX10) (hdg : decode mt.2.1 pc = .ok (.putfield 139, 3)) (q0 : Nat) {a : Nat} {fs fs' : List Value} {x : Int32} (he : ws[q0]? = some (a, .inr (10, fs))) (hlen : 42 < fs.length) (hfs : fs.set 42 (.int x) = fs') {ws' : va_W} (hws : ws.set q0 (a, .inr (10, fs')) = ws') (K : V D X cells slots (pc + 3) lv st ws') : V D X cells slots pc lv (.int x :: .ref a :: st) ws :=
  v_put (k := 42) (T := TX10) (ty := .int) O inW10 tyX10 tyX10_ok nmX10 rfl (by decide) (by rw [hm]; exact tw_1010) rfl rfl (by decide +kernel) hdg q0 he rfl rfl hlen hfs hws K
theorem tw_1011 : Cond.fieldLink RX10 142 "OneForDogModel" "imageBooks" "I" ∈ Wd := wd_of 1011 (by decide +kernel) (by decide +kernel)
theorem gf_X10_142 (O : Ok D X mt d kc ks) (hm : mt.1.cls = RX10) (hdg : decode mt.2.1 pc = .ok (.getfield 142, 3)) (q0 : Nat) {a : Nat} {fs : List Value} (he : ws[q0]? = some (a, .inr (10, fs))) {v : Value} (hv : fs[43]? = some v) (K : V D X cells slots (pc + 3) lv (v :: st) ws) : V D X cells slots pc lv (.ref a :: st) ws :=
  v_get (k := 43) (T := TX10) O inW10 rfl (by decide) (by rw [hm]; exact tw_1011) rfl hdg q0 he hv K
theorem pf_X10_142 (O : Ok D X mt d kc ks) (hm : mt.1.cls = RX10) (hdg : decode mt.2.1 pc = .ok (.putfield 142, 3)) (q0 : Nat) {a : Nat} {fs fs' : List Value} {x : Int32} (he : ws[q0]? = some (a, .inr (10, fs))) (hlen : 43 < fs.length) (hfs : fs.set 43 (.int x) = fs') {ws' : va_W} (hws : ws.set q0 (a, .inr (10, fs')) = ws') (K : V D X cells slots (pc + 3) lv st ws') : V D X cells slots pc lv (.int x :: .ref a :: st) ws :=
  v_put (k := 43) (T := TX10) (ty := .int) O inW10 tyX10 tyX10_ok nmX10 rfl (by decide) (by rw [hm]; exact tw_1011) rfl rfl (by decide +kernel) hdg q0 he rfl rfl hlen hfs hws K
theorem tw_1012 : Cond.fieldLink RX10 145 "OneForDogModel" "imageKind" "[I" ∈ Wd := wd_of 1012 (by decide +kernel) (by decide +kernel)
theorem gf_X10_145 (O : Ok D X mt d kc ks) (hm : mt.1.cls = RX10) (hdg : decode mt.2.1 pc = .ok (.getfield 145, 3)) (q0 : Nat) {a : Nat} {fs : List Value} (he : ws[q0]? = some (a, .inr (10, fs))) {v : Value} (hv : fs[44]? = some v) (K : V D X cells slots (pc + 3) lv (v :: st) ws) : V D X cells slots pc lv (.ref a :: st) ws :=
  v_get (k := 44) (T := TX10) O inW10 rfl (by decide) (by rw [hm]; exact tw_1012) rfl hdg q0 he hv K
theorem pf_X10_145 (O : Ok D X mt d kc ks) (hm : mt.1.cls = RX10) (hini : mt.1.name = "<init>") (hdg : decode mt.2.1 pc = .ok (.putfield 145, 3)) (q0 : Nat) {a : Nat} {fs fs' : List Value} {x : Nat} (he : ws[q0]? = some (a, .inr (10, fs))) (hlen : 44 < fs.length) (hfs : fs.set 44 (.ref x) = fs') {ws' : va_W} (hws : ws.set q0 (a, .inr (10, fs')) = ws') (K : V D X cells slots (pc + 3) lv st ws') : V D X cells slots pc lv (.ref x :: .ref a :: st) ws :=
  v_putF (k := 44) (T := TX10) (ty := .array .int) O inW10 tyX10 tyX10_ok nmX10 rfl (by decide) (by rw [hm]; exact tw_1012) rfl rfl hini (by rw [hm]; rfl) (by decide +kernel) hdg q0 he rfl rfl hlen hfs hws K
theorem tw_1013 : Cond.fieldLink RX10 148 "OneForDogModel" "imageV" "[I" ∈ Wd := wd_of 1013 (by decide +kernel) (by decide +kernel)
theorem gf_X10_148 (O : Ok D X mt d kc ks) (hm : mt.1.cls = RX10) (hdg : decode mt.2.1 pc = .ok (.getfield 148, 3)) (q0 : Nat) {a : Nat} {fs : List Value} (he : ws[q0]? = some (a, .inr (10, fs))) {v : Value} (hv : fs[45]? = some v) (K : V D X cells slots (pc + 3) lv (v :: st) ws) : V D X cells slots pc lv (.ref a :: st) ws :=
  v_get (k := 45) (T := TX10) O inW10 rfl (by decide) (by rw [hm]; exact tw_1013) rfl hdg q0 he hv K
theorem pf_X10_148 (O : Ok D X mt d kc ks) (hm : mt.1.cls = RX10) (hini : mt.1.name = "<init>") (hdg : decode mt.2.1 pc = .ok (.putfield 148, 3)) (q0 : Nat) {a : Nat} {fs fs' : List Value} {x : Nat} (he : ws[q0]? = some (a, .inr (10, fs))) (hlen : 45 < fs.length) (hfs : fs.set 45 (.ref x) = fs') {ws' : va_W} (hws : ws.set q0 (a, .inr (10, fs')) = ws') (K : V D X cells slots (pc + 3) lv st ws') : V D X cells slots pc lv (.ref x :: .ref a :: st) ws :=
  v_putF (k := 45) (T := TX10) (ty := .array .int) O inW10 tyX10 tyX10_ok nmX10 rfl (by decide) (by rw [hm]; exact tw_1013) rfl rfl hini (by rw [hm]; rfl) (by decide +kernel) hdg q0 he rfl rfl hlen hfs hws K
theorem tw_1014 : Cond.fieldLink RX10 151 "OneForDogModel" "imageHidden" "[I" ∈ Wd := wd_of 1014 (by decide +kernel) (by decide +kernel)
theorem gf_X10_151 (O : Ok D X mt d kc ks) (hm : mt.1.cls = RX10) (hdg : decode mt.2.1 pc = .ok (.getfield 151, 3)) (q0 : Nat) {a : Nat} {fs : List Value} (he : ws[q0]? = some (a, .inr (10, fs))) {v : Value} (hv : fs[46]? = some v) (K : V D X cells slots (pc + 3) lv (v :: st) ws) : V D X cells slots pc lv (.ref a :: st) ws :=
  v_get (k := 46) (T := TX10) O inW10 rfl (by decide) (by rw [hm]; exact tw_1014) rfl hdg q0 he hv K
theorem pf_X10_151 (O : Ok D X mt d kc ks) (hm : mt.1.cls = RX10) (hini : mt.1.name = "<init>") (hdg : decode mt.2.1 pc = .ok (.putfield 151, 3)) (q0 : Nat) {a : Nat} {fs fs' : List Value} {x : Nat} (he : ws[q0]? = some (a, .inr (10, fs))) (hlen : 46 < fs.length) (hfs : fs.set 46 (.ref x) = fs') {ws' : va_W} (hws : ws.set q0 (a, .inr (10, fs')) = ws') (K : V D X cells slots (pc + 3) lv st ws') : V D X cells slots pc lv (.ref x :: .ref a :: st) ws :=
  v_putF (k := 46) (T := TX10) (ty := .array .int) O inW10 tyX10 tyX10_ok nmX10 rfl (by decide) (by rw [hm]; exact tw_1014) rfl rfl hini (by rw [hm]; rfl) (by decide +kernel) hdg q0 he rfl rfl hlen hfs hws K
theorem tw_1015 : Cond.fieldLink RX10 154 "OneForDogModel" "imageRow" "[I" ∈ Wd := wd_of 1015 (by decide +kernel) (by decide +kernel)
theorem gf_X10_154 (O : Ok D X mt d kc ks) (hm : mt.1.cls = RX10) (hdg : decode mt.2.1 pc = .ok (.getfield 154, 3)) (q0 : Nat) {a : Nat} {fs : List Value} (he : ws[q0]? = some (a, .inr (10, fs))) {v : Value} (hv : fs[47]? = some v) (K : V D X cells slots (pc + 3) lv (v :: st) ws) : V D X cells slots pc lv (.ref a :: st) ws :=
  v_get (k := 47) (T := TX10) O inW10 rfl (by decide) (by rw [hm]; exact tw_1015) rfl hdg q0 he hv K
theorem pf_X10_154 (O : Ok D X mt d kc ks) (hm : mt.1.cls = RX10) (hini : mt.1.name = "<init>") (hdg : decode mt.2.1 pc = .ok (.putfield 154, 3)) (q0 : Nat) {a : Nat} {fs fs' : List Value} {x : Nat} (he : ws[q0]? = some (a, .inr (10, fs))) (hlen : 47 < fs.length) (hfs : fs.set 47 (.ref x) = fs') {ws' : va_W} (hws : ws.set q0 (a, .inr (10, fs')) = ws') (K : V D X cells slots (pc + 3) lv st ws') : V D X cells slots pc lv (.ref x :: .ref a :: st) ws :=
  v_putF (k := 47) (T := TX10) (ty := .array .int) O inW10 tyX10 tyX10_ok nmX10 rfl (by decide) (by rw [hm]; exact tw_1015) rfl rfl hini (by rw [hm]; rfl) (by decide +kernel) hdg q0 he rfl rfl hlen hfs hws K
theorem tw_1016 : Cond.fieldLink RX10 157 "OneForDogModel" "imageBook" "[I" ∈ Wd := wd_of 1016 (by decide +kernel) (by decide +kernel)
theorem gf_X10_157 (O : Ok D X mt d kc ks) (hm : mt.1.cls = RX10) (hdg : decode mt.2.1 pc = .ok (.getfield 157, 3)) (q0 : Nat) {a : Nat} {fs : List Value} (he : ws[q0]? = some (a, .inr (10, fs))) {v : Value} (hv : fs[48]? = some v) (K : V D X cells slots (pc + 3) lv (v :: st) ws) : V D X cells slots pc lv (.ref a :: st) ws :=
  v_get (k := 48) (T := TX10) O inW10 rfl (by decide) (by rw [hm]; exact tw_1016) rfl hdg q0 he hv K
theorem pf_X10_157 (O : Ok D X mt d kc ks) (hm : mt.1.cls = RX10) (hini : mt.1.name = "<init>") (hdg : decode mt.2.1 pc = .ok (.putfield 157, 3)) (q0 : Nat) {a : Nat} {fs fs' : List Value} {x : Nat} (he : ws[q0]? = some (a, .inr (10, fs))) (hlen : 48 < fs.length) (hfs : fs.set 48 (.ref x) = fs') {ws' : va_W} (hws : ws.set q0 (a, .inr (10, fs')) = ws') (K : V D X cells slots (pc + 3) lv st ws') : V D X cells slots pc lv (.ref x :: .ref a :: st) ws :=
  v_putF (k := 48) (T := TX10) (ty := .array .int) O inW10 tyX10 tyX10_ok nmX10 rfl (by decide) (by rw [hm]; exact tw_1016) rfl rfl hini (by rw [hm]; rfl) (by decide +kernel) hdg q0 he rfl rfl hlen hfs hws K
theorem tw_1017 : Cond.fieldLink RX10 160 "OneForDogModel" "ran" "I" ∈ Wd := wd_of 1017 (by decide +kernel) (by decide +kernel)
theorem gf_X10_160 (O : Ok D X mt d kc ks) (hm : mt.1.cls = RX10) (hdg : decode mt.2.1 pc = .ok (.getfield 160, 3)) (q0 : Nat) {a : Nat} {fs : List Value} (he : ws[q0]? = some (a, .inr (10, fs))) {v : Value} (hv : fs[49]? = some v) (K : V D X cells slots (pc + 3) lv (v :: st) ws) : V D X cells slots pc lv (.ref a :: st) ws :=
  v_get (k := 49) (T := TX10) O inW10 rfl (by decide) (by rw [hm]; exact tw_1017) rfl hdg q0 he hv K
theorem pf_X10_160 (O : Ok D X mt d kc ks) (hm : mt.1.cls = RX10) (hdg : decode mt.2.1 pc = .ok (.putfield 160, 3)) (q0 : Nat) {a : Nat} {fs fs' : List Value} {x : Int32} (he : ws[q0]? = some (a, .inr (10, fs))) (hlen : 49 < fs.length) (hfs : fs.set 49 (.int x) = fs') {ws' : va_W} (hws : ws.set q0 (a, .inr (10, fs')) = ws') (K : V D X cells slots (pc + 3) lv st ws') : V D X cells slots pc lv (.int x :: .ref a :: st) ws :=
  v_put (k := 49) (T := TX10) (ty := .int) O inW10 tyX10 tyX10_ok nmX10 rfl (by decide) (by rw [hm]; exact tw_1017) rfl rfl (by decide +kernel) hdg q0 he rfl rfl hlen hfs hws K
theorem tw_1018 : Cond.fieldLink RX10 163 "OneForDogModel" "bodies" "[I" ∈ Wd := wd_of 1018 (by decide +kernel) (by decide +kernel)
theorem gf_X10_163 (O : Ok D X mt d kc ks) (hm : mt.1.cls = RX10) (hdg : decode mt.2.1 pc = .ok (.getfield 163, 3)) (q0 : Nat) {a : Nat} {fs : List Value} (he : ws[q0]? = some (a, .inr (10, fs))) {v : Value} (hv : fs[50]? = some v) (K : V D X cells slots (pc + 3) lv (v :: st) ws) : V D X cells slots pc lv (.ref a :: st) ws :=
  v_get (k := 50) (T := TX10) O inW10 rfl (by decide) (by rw [hm]; exact tw_1018) rfl hdg q0 he hv K
theorem pf_X10_163 (O : Ok D X mt d kc ks) (hm : mt.1.cls = RX10) (hini : mt.1.name = "<init>") (hdg : decode mt.2.1 pc = .ok (.putfield 163, 3)) (q0 : Nat) {a : Nat} {fs fs' : List Value} {x : Nat} (he : ws[q0]? = some (a, .inr (10, fs))) (hlen : 50 < fs.length) (hfs : fs.set 50 (.ref x) = fs') {ws' : va_W} (hws : ws.set q0 (a, .inr (10, fs')) = ws') (K : V D X cells slots (pc + 3) lv st ws') : V D X cells slots pc lv (.ref x :: .ref a :: st) ws :=
  v_putF (k := 50) (T := TX10) (ty := .array .int) O inW10 tyX10 tyX10_ok nmX10 rfl (by decide) (by rw [hm]; exact tw_1018) rfl rfl hini (by rw [hm]; rfl) (by decide +kernel) hdg q0 he rfl rfl hlen hfs hws K
theorem tw_1019 : Cond.fieldLink RX10 166 "OneForDogModel" "sort" "[I" ∈ Wd := wd_of 1019 (by decide +kernel) (by decide +kernel)
theorem gf_X10_166 (O : Ok D X mt d kc ks) (hm : mt.1.cls = RX10) (hdg : decode mt.2.1 pc = .ok (.getfield 166, 3)) (q0 : Nat) {a : Nat} {fs : List Value} (he : ws[q0]? = some (a, .inr (10, fs))) {v : Value} (hv : fs[51]? = some v) (K : V D X cells slots (pc + 3) lv (v :: st) ws) : V D X cells slots pc lv (.ref a :: st) ws :=
  v_get (k := 51) (T := TX10) O inW10 rfl (by decide) (by rw [hm]; exact tw_1019) rfl hdg q0 he hv K
theorem pf_X10_166 (O : Ok D X mt d kc ks) (hm : mt.1.cls = RX10) (hini : mt.1.name = "<init>") (hdg : decode mt.2.1 pc = .ok (.putfield 166, 3)) (q0 : Nat) {a : Nat} {fs fs' : List Value} {x : Nat} (he : ws[q0]? = some (a, .inr (10, fs))) (hlen : 51 < fs.length) (hfs : fs.set 51 (.ref x) = fs') {ws' : va_W} (hws : ws.set q0 (a, .inr (10, fs')) = ws') (K : V D X cells slots (pc + 3) lv st ws') : V D X cells slots pc lv (.ref x :: .ref a :: st) ws :=
  v_putF (k := 51) (T := TX10) (ty := .array .int) O inW10 tyX10 tyX10_ok nmX10 rfl (by decide) (by rw [hm]; exact tw_1019) rfl rfl hini (by rw [hm]; rfl) (by decide +kernel) hdg q0 he rfl rfl hlen hfs hws K
theorem tw_1020 : Cond.fieldLink RX10 169 "OneForDogModel" "length" "[I" ∈ Wd := wd_of 1020 (by decide +kernel) (by decide +kernel)
theorem gf_X10_169 (O : Ok D X mt d kc ks) (hm : mt.1.cls = RX10) (hdg : decode mt.2.1 pc = .ok (.getfield 169, 3)) (q0 : Nat) {a : Nat} {fs : List Value} (he : ws[q0]? = some (a, .inr (10, fs))) {v : Value} (hv : fs[52]? = some v) (K : V D X cells slots (pc + 3) lv (v :: st) ws) : V D X cells slots pc lv (.ref a :: st) ws :=
  v_get (k := 52) (T := TX10) O inW10 rfl (by decide) (by rw [hm]; exact tw_1020) rfl hdg q0 he hv K
theorem pf_X10_169 (O : Ok D X mt d kc ks) (hm : mt.1.cls = RX10) (hini : mt.1.name = "<init>") (hdg : decode mt.2.1 pc = .ok (.putfield 169, 3)) (q0 : Nat) {a : Nat} {fs fs' : List Value} {x : Nat} (he : ws[q0]? = some (a, .inr (10, fs))) (hlen : 52 < fs.length) (hfs : fs.set 52 (.ref x) = fs') {ws' : va_W} (hws : ws.set q0 (a, .inr (10, fs')) = ws') (K : V D X cells slots (pc + 3) lv st ws') : V D X cells slots pc lv (.ref x :: .ref a :: st) ws :=
  v_putF (k := 52) (T := TX10) (ty := .array .int) O inW10 tyX10 tyX10_ok nmX10 rfl (by decide) (by rw [hm]; exact tw_1020) rfl rfl hini (by rw [hm]; rfl) (by decide +kernel) hdg q0 he rfl rfl hlen hfs hws K
theorem tw_1021 : Cond.fieldLink RX10 172 "OneForDogModel" "item" "[J" ∈ Wd := wd_of 1021 (by decide +kernel) (by decide +kernel)
theorem gf_X10_172 (O : Ok D X mt d kc ks) (hm : mt.1.cls = RX10) (hdg : decode mt.2.1 pc = .ok (.getfield 172, 3)) (q0 : Nat) {a : Nat} {fs : List Value} (he : ws[q0]? = some (a, .inr (10, fs))) {v : Value} (hv : fs[53]? = some v) (K : V D X cells slots (pc + 3) lv (v :: st) ws) : V D X cells slots pc lv (.ref a :: st) ws :=
  v_get (k := 53) (T := TX10) O inW10 rfl (by decide) (by rw [hm]; exact tw_1021) rfl hdg q0 he hv K
theorem pf_X10_172 (O : Ok D X mt d kc ks) (hm : mt.1.cls = RX10) (hini : mt.1.name = "<init>") (hdg : decode mt.2.1 pc = .ok (.putfield 172, 3)) (q0 : Nat) {a : Nat} {fs fs' : List Value} {x : Nat} (he : ws[q0]? = some (a, .inr (10, fs))) (hlen : 53 < fs.length) (hfs : fs.set 53 (.ref x) = fs') {ws' : va_W} (hws : ws.set q0 (a, .inr (10, fs')) = ws') (K : V D X cells slots (pc + 3) lv st ws') : V D X cells slots pc lv (.ref x :: .ref a :: st) ws :=
  v_putF (k := 53) (T := TX10) (ty := .array .long) O inW10 tyX10 tyX10_ok nmX10 rfl (by decide) (by rw [hm]; exact tw_1021) rfl rfl hini (by rw [hm]; rfl) (by decide +kernel) hdg q0 he rfl rfl hlen hfs hws K
theorem tw_1022 : Cond.fieldLink RX10 176 "OneForDogModel" "aside" "[J" ∈ Wd := wd_of 1022 (by decide +kernel) (by decide +kernel)
theorem gf_X10_176 (O : Ok D X mt d kc ks) (hm : mt.1.cls = RX10) (hdg : decode mt.2.1 pc = .ok (.getfield 176, 3)) (q0 : Nat) {a : Nat} {fs : List Value} (he : ws[q0]? = some (a, .inr (10, fs))) {v : Value} (hv : fs[54]? = some v) (K : V D X cells slots (pc + 3) lv (v :: st) ws) : V D X cells slots pc lv (.ref a :: st) ws :=
  v_get (k := 54) (T := TX10) O inW10 rfl (by decide) (by rw [hm]; exact tw_1022) rfl hdg q0 he hv K
theorem pf_X10_176 (O : Ok D X mt d kc ks) (hm : mt.1.cls = RX10) (hini : mt.1.name = "<init>") (hdg : decode mt.2.1 pc = .ok (.putfield 176, 3)) (q0 : Nat) {a : Nat} {fs fs' : List Value} {x : Nat} (he : ws[q0]? = some (a, .inr (10, fs))) (hlen : 54 < fs.length) (hfs : fs.set 54 (.ref x) = fs') {ws' : va_W} (hws : ws.set q0 (a, .inr (10, fs')) = ws') (K : V D X cells slots (pc + 3) lv st ws') : V D X cells slots pc lv (.ref x :: .ref a :: st) ws :=
  v_putF (k := 54) (T := TX10) (ty := .array .long) O inW10 tyX10 tyX10_ok nmX10 rfl (by decide) (by rw [hm]; exact tw_1022) rfl rfl hini (by rw [hm]; rfl) (by decide +kernel) hdg q0 he rfl rfl hlen hfs hws K
end SR
theorem tw_99 : mcode mX9_init ∈ Wd := wd_of 99 (by decide +kernel) (by decide +kernel)
theorem tw_77 : Cond.initialized RX9 ∈ Wd := wd_of 77 (by decide +kernel) (by decide +kernel)
theorem cp_X9_init : CFp mX9_init 0 := ⟨tw_99, tw_77, by decide, by decide, by decide, by decide +kernel⟩
theorem tw_97 : Cond.methodLink RL 9 yX9_init ∈ Wd := wd_of 97 (by decide +kernel) (by decide +kernel)
theorem tw_98 : Cond.instanceMethod yX9_init ∈ Wd := wd_of 98 (by decide +kernel) (by decide +kernel)
theorem cf_L_9 : CFi RL mX9_init 9 0 := ⟨cp_X9_init, tw_97, tw_98, rfl, rfl⟩
theorem tw_100 : Cond.methodLink RX9 3 objectInit ∈ Wd := wd_of 100 (by decide +kernel) (by decide +kernel)
theorem tw_107 : mcode mX1_init ∈ Wd := wd_of 107 (by decide +kernel) (by decide +kernel)
theorem tw_78 : Cond.initialized RX1 ∈ Wd := wd_of 78 (by decide +kernel) (by decide +kernel)
theorem cp_X1_init : CFp mX1_init 0 := ⟨tw_107, tw_78, by decide, by decide, by decide, by decide +kernel⟩
theorem tw_106 : Cond.instanceMethod yX1_init ∈ Wd := wd_of 106 (by decide +kernel) (by decide +kernel)
theorem cf_X9_11 : CFiN RX9 mX1_init 11 0 := ⟨cp_X1_init, List.mem_of_getElem? (i := 0) rfl, tw_106, rfl, rfl⟩
theorem tw_108 : Cond.methodLink RX1 3 objectInit ∈ Wd := wd_of 108 (by decide +kernel) (by decide +kernel)
theorem tw_169 : mcode mX7_init ∈ Wd := wd_of 169 (by decide +kernel) (by decide +kernel)
theorem tw_79 : Cond.initialized RX7 ∈ Wd := wd_of 79 (by decide +kernel) (by decide +kernel)
theorem cp_X7_init : CFp mX7_init 0 := ⟨tw_169, tw_79, by decide, by decide, by decide, by decide +kernel⟩
theorem tw_168 : Cond.instanceMethod yX7_init ∈ Wd := wd_of 168 (by decide +kernel) (by decide +kernel)
theorem cf_X9_27 : CFiN RX9 mX7_init 27 0 := ⟨cp_X7_init, List.mem_of_getElem? (i := 1) rfl, tw_168, rfl, rfl⟩
theorem tw_170 : Cond.methodLink RX7 3 objectInit ∈ Wd := wd_of 170 (by decide +kernel) (by decide +kernel)
theorem tw_189 : mcode mX6_init ∈ Wd := wd_of 189 (by decide +kernel) (by decide +kernel)
theorem tw_80 : Cond.initialized RX6 ∈ Wd := wd_of 80 (by decide +kernel) (by decide +kernel)
theorem cp_X6_init : CFp mX6_init 0 := ⟨tw_189, tw_80, by decide, by decide, by decide, by decide +kernel⟩
theorem tw_188 : Cond.instanceMethod yX6_init ∈ Wd := wd_of 188 (by decide +kernel) (by decide +kernel)
theorem cf_X9_34 : CFiN RX9 mX6_init 34 0 := ⟨cp_X6_init, List.mem_of_getElem? (i := 2) rfl, tw_188, rfl, rfl⟩
theorem tw_190 : Cond.methodLink RX6 3 objectInit ∈ Wd := wd_of 190 (by decide +kernel) (by decide +kernel)
theorem tw_231 : mcode mX8_init ∈ Wd := wd_of 231 (by decide +kernel) (by decide +kernel)
theorem tw_81 : Cond.initialized RX8 ∈ Wd := wd_of 81 (by decide +kernel) (by decide +kernel)
theorem cp_X8_init : CFp mX8_init 0 := ⟨tw_231, tw_81, by decide, by decide, by decide, by decide +kernel⟩
theorem tw_230 : Cond.instanceMethod yX8_init ∈ Wd := wd_of 230 (by decide +kernel) (by decide +kernel)
theorem cf_X9_49 : CFiN RX9 mX8_init 49 0 := ⟨cp_X8_init, List.mem_of_getElem? (i := 3) rfl, tw_230, rfl, rfl⟩
theorem tw_232 : Cond.methodLink RX8 3 objectInit ∈ Wd := wd_of 232 (by decide +kernel) (by decide +kernel)
theorem tw_275 : mcode mX3_init ∈ Wd := wd_of 275 (by decide +kernel) (by decide +kernel)
theorem tw_82 : Cond.initialized RX3 ∈ Wd := wd_of 82 (by decide +kernel) (by decide +kernel)
theorem cp_X3_init : CFp mX3_init 0 := ⟨tw_275, tw_82, by decide, by decide, by decide, by decide +kernel⟩
theorem tw_274 : Cond.instanceMethod yX3_init ∈ Wd := wd_of 274 (by decide +kernel) (by decide +kernel)
theorem cf_X9_56 : CFiN RX9 mX3_init 56 0 := ⟨cp_X3_init, List.mem_of_getElem? (i := 4) rfl, tw_274, rfl, rfl⟩
theorem tw_276 : Cond.methodLink RX3 3 objectInit ∈ Wd := wd_of 276 (by decide +kernel) (by decide +kernel)
theorem cf_X3_11 : CFiN RX3 mX8_init 11 0 := ⟨cp_X8_init, List.mem_of_getElem? (i := 5) rfl, tw_230, rfl, rfl⟩
theorem tw_311 : mcode mX4_init ∈ Wd := wd_of 311 (by decide +kernel) (by decide +kernel)
theorem tw_83 : Cond.initialized RX4 ∈ Wd := wd_of 83 (by decide +kernel) (by decide +kernel)
theorem cp_X4_init : CFp mX4_init 0 := ⟨tw_311, tw_83, by decide, by decide, by decide, by decide +kernel⟩
theorem tw_310 : Cond.instanceMethod yX4_init ∈ Wd := wd_of 310 (by decide +kernel) (by decide +kernel)
theorem cf_X9_63 : CFiN RX9 mX4_init 63 0 := ⟨cp_X4_init, List.mem_of_getElem? (i := 6) rfl, tw_310, rfl, rfl⟩
theorem tw_312 : Cond.methodLink RX4 3 objectInit ∈ Wd := wd_of 312 (by decide +kernel) (by decide +kernel)
theorem cf_X4_11 : CFiN RX4 mX8_init 11 0 := ⟨cp_X8_init, List.mem_of_getElem? (i := 7) rfl, tw_230, rfl, rfl⟩
theorem tw_342 : mcode mX2_init ∈ Wd := wd_of 342 (by decide +kernel) (by decide +kernel)
theorem tw_84 : Cond.initialized RX2 ∈ Wd := wd_of 84 (by decide +kernel) (by decide +kernel)
theorem cp_X2_init : CFp mX2_init 0 := ⟨tw_342, tw_84, by decide, by decide, by decide, by decide +kernel⟩
theorem tw_341 : Cond.instanceMethod yX2_init ∈ Wd := wd_of 341 (by decide +kernel) (by decide +kernel)
theorem cf_X9_70 : CFiN RX9 mX2_init 70 0 := ⟨cp_X2_init, List.mem_of_getElem? (i := 8) rfl, tw_341, rfl, rfl⟩
theorem tw_343 : Cond.methodLink RX2 1 objectInit ∈ Wd := wd_of 343 (by decide +kernel) (by decide +kernel)
theorem tw_352 : mcode mX0_init ∈ Wd := wd_of 352 (by decide +kernel) (by decide +kernel)
theorem tw_85 : Cond.initialized RX0 ∈ Wd := wd_of 85 (by decide +kernel) (by decide +kernel)
theorem cp_X0_init : CFp mX0_init 0 := ⟨tw_352, tw_85, by decide, by decide, by decide, by decide +kernel⟩
theorem tw_351 : Cond.instanceMethod yX0_init ∈ Wd := wd_of 351 (by decide +kernel) (by decide +kernel)
theorem cf_X9_77 : CFiN RX9 mX0_init 77 0 := ⟨cp_X0_init, List.mem_of_getElem? (i := 9) rfl, tw_351, rfl, rfl⟩
theorem tw_353 : Cond.methodLink RX0 3 objectInit ∈ Wd := wd_of 353 (by decide +kernel) (by decide +kernel)
theorem tw_376 : mcode mX5_init ∈ Wd := wd_of 376 (by decide +kernel) (by decide +kernel)
theorem tw_86 : Cond.initialized RX5 ∈ Wd := wd_of 86 (by decide +kernel) (by decide +kernel)
theorem cp_X5_init : CFp mX5_init 0 := ⟨tw_376, tw_86, by decide, by decide, by decide, by decide +kernel⟩
theorem tw_375 : Cond.instanceMethod yX5_init ∈ Wd := wd_of 375 (by decide +kernel) (by decide +kernel)
theorem cf_X9_88 : CFiN RX9 mX5_init 88 0 := ⟨cp_X5_init, List.mem_of_getElem? (i := 10) rfl, tw_375, rfl, rfl⟩
theorem tw_377 : Cond.methodLink RX5 3 objectInit ∈ Wd := wd_of 377 (by decide +kernel) (by decide +kernel)
theorem tw_434 : mcode mX9_man ∈ Wd := wd_of 434 (by decide +kernel) (by decide +kernel)
theorem cp_X9_man : CFp mX9_man 2 := ⟨tw_434, tw_77, by decide, by decide, by decide, by decide +kernel⟩
theorem tw_431 : Cond.methodLink RL 13 yX9_man ∈ Wd := wd_of 431 (by decide +kernel) (by decide +kernel)
theorem tw_432 : Cond.instanceMethod yX9_man ∈ Wd := wd_of 432 (by decide +kernel) (by decide +kernel)
theorem tw_433 : Cond.selects RX9 yX9_man yX9_man ∈ Wd := wd_of 433 (by decide +kernel) (by decide +kernel)
theorem cf_L_13 : CFv RL mX9_man 13 2 := ⟨cp_X9_man, tw_431, tw_432, tw_433⟩
theorem tw_438 : mcode mX9_of ∈ Wd := wd_of 438 (by decide +kernel) (by decide +kernel)
theorem cp_X9_of : CFp mX9_of 2 := ⟨tw_438, tw_77, by decide, by decide, by decide, by decide +kernel⟩
theorem tw_435 : Cond.methodLink RL 18 yX9_of ∈ Wd := wd_of 435 (by decide +kernel) (by decide +kernel)
theorem tw_436 : Cond.instanceMethod yX9_of ∈ Wd := wd_of 436 (by decide +kernel) (by decide +kernel)
theorem tw_437 : Cond.selects RX9 yX9_of yX9_of ∈ Wd := wd_of 437 (by decide +kernel) (by decide +kernel)
theorem cf_L_18 : CFv RL mX9_of 18 2 := ⟨cp_X9_of, tw_435, tw_436, tw_437⟩
theorem tw_442 : mcode mX9_isMan ∈ Wd := wd_of 442 (by decide +kernel) (by decide +kernel)
theorem cp_X9_isMan : CFp mX9_isMan 1 := ⟨tw_442, tw_77, by decide, by decide, by decide, by decide +kernel⟩
theorem tw_439 : Cond.methodLink RX9 102 yX9_isMan ∈ Wd := wd_of 439 (by decide +kernel) (by decide +kernel)
theorem tw_441 : Cond.instanceMethod yX9_isMan ∈ Wd := wd_of 441 (by decide +kernel) (by decide +kernel)
theorem tw_0 : Cond.selects RX9 yX9_isMan yX9_isMan ∈ Wd := wd_of 0 (by decide +kernel) (by decide +kernel)
theorem cf_X9_102 : CFv RX9 mX9_isMan 102 1 := ⟨cp_X9_isMan, tw_439, tw_441, tw_0⟩
theorem tw_446 : mcode mX9_readyWaking ∈ Wd := wd_of 446 (by decide +kernel) (by decide +kernel)
theorem cp_X9_readyWaking : CFp mX9_readyWaking 1 := ⟨tw_446, tw_77, by decide, by decide, by decide, by decide +kernel⟩
theorem tw_443 : Cond.methodLink RX9 106 yX9_readyWaking ∈ Wd := wd_of 443 (by decide +kernel) (by decide +kernel)
theorem tw_445 : Cond.instanceMethod yX9_readyWaking ∈ Wd := wd_of 445 (by decide +kernel) (by decide +kernel)
theorem tw_1 : Cond.selects RX9 yX9_readyWaking yX9_readyWaking ∈ Wd := wd_of 1 (by decide +kernel) (by decide +kernel)
theorem cf_X9_106 : CFv RX9 mX9_readyWaking 106 1 := ⟨cp_X9_readyWaking, tw_443, tw_445, tw_1⟩
theorem tw_450 : mcode mX9_heldVillage ∈ Wd := wd_of 450 (by decide +kernel) (by decide +kernel)
theorem cp_X9_heldVillage : CFp mX9_heldVillage 0 := ⟨tw_450, tw_77, by decide, by decide, by decide, by decide +kernel⟩
theorem tw_447 : Cond.methodLink RX9 148 yX9_heldVillage ∈ Wd := wd_of 447 (by decide +kernel) (by decide +kernel)
theorem tw_449 : Cond.instanceMethod yX9_heldVillage ∈ Wd := wd_of 449 (by decide +kernel) (by decide +kernel)
theorem tw_2 : Cond.selects RX9 yX9_heldVillage yX9_heldVillage ∈ Wd := wd_of 2 (by decide +kernel) (by decide +kernel)
theorem cf_X9_148 : CFv RX9 mX9_heldVillage 148 0 := ⟨cp_X9_heldVillage, tw_447, tw_449, tw_2⟩
theorem tw_454 : mcode mX8_begin ∈ Wd := wd_of 454 (by decide +kernel) (by decide +kernel)
theorem cp_X8_begin : CFp mX8_begin 2 := ⟨tw_454, tw_81, by decide, by decide, by decide, by decide +kernel⟩
theorem tw_451 : Cond.methodLink RX9 311 yX8_begin ∈ Wd := wd_of 451 (by decide +kernel) (by decide +kernel)
theorem tw_452 : Cond.instanceMethod yX8_begin ∈ Wd := wd_of 452 (by decide +kernel) (by decide +kernel)
theorem tw_453 : Cond.selects RX8 yX8_begin yX8_begin ∈ Wd := wd_of 453 (by decide +kernel) (by decide +kernel)
theorem cf_X9_311 : CFv RX9 mX8_begin 311 2 := ⟨cp_X8_begin, tw_451, tw_452, tw_453⟩
theorem tw_457 : mcode mX8_partsFor ∈ Wd := wd_of 457 (by decide +kernel) (by decide +kernel)
theorem cp_X8_partsFor : CFp mX8_partsFor 3 := ⟨tw_457, tw_81, by decide, by decide, by decide, by decide +kernel⟩
theorem tw_455 : Cond.methodLink RX8 55 yX8_partsFor ∈ Wd := wd_of 455 (by decide +kernel) (by decide +kernel)
theorem tw_456 : Cond.static yX8_partsFor ∈ Wd := wd_of 456 (by decide +kernel) (by decide +kernel)
theorem cf_X8_55 : CFs RX8 mX8_partsFor 55 3 := ⟨cp_X8_partsFor, tw_455, tw_456⟩
theorem tw_461 : mcode mX8_reckon ∈ Wd := wd_of 461 (by decide +kernel) (by decide +kernel)
theorem cp_X8_reckon : CFp mX8_reckon 3 := ⟨tw_461, tw_81, by decide, by decide, by decide, by decide +kernel⟩
theorem tw_458 : Cond.methodLink RX9 315 yX8_reckon ∈ Wd := wd_of 458 (by decide +kernel) (by decide +kernel)
theorem tw_459 : Cond.instanceMethod yX8_reckon ∈ Wd := wd_of 459 (by decide +kernel) (by decide +kernel)
theorem tw_460 : Cond.selects RX8 yX8_reckon yX8_reckon ∈ Wd := wd_of 460 (by decide +kernel) (by decide +kernel)
theorem cf_X9_315 : CFv RX9 mX8_reckon 315 3 := ⟨cp_X8_reckon, tw_458, tw_459, tw_460⟩
theorem tw_464 : mcode mX8_slot ∈ Wd := wd_of 464 (by decide +kernel) (by decide +kernel)
theorem cp_X8_slot : CFp mX8_slot 3 := ⟨tw_464, tw_81, by decide, by decide, by decide, by decide +kernel⟩
theorem tw_462 : Cond.methodLink RX8 59 yX8_slot ∈ Wd := wd_of 462 (by decide +kernel) (by decide +kernel)
theorem tw_463 : Cond.static yX8_slot ∈ Wd := wd_of 463 (by decide +kernel) (by decide +kernel)
theorem cf_X8_59 : CFs RX8 mX8_slot 59 3 := ⟨cp_X8_slot, tw_462, tw_463⟩
theorem tw_468 : mcode mX6_over ∈ Wd := wd_of 468 (by decide +kernel) (by decide +kernel)
theorem cp_X6_over : CFp mX6_over 1 := ⟨tw_468, tw_80, by decide, by decide, by decide, by decide +kernel⟩
theorem tw_465 : Cond.methodLink RX8 62 yX6_over ∈ Wd := wd_of 465 (by decide +kernel) (by decide +kernel)
theorem tw_466 : Cond.instanceMethod yX6_over ∈ Wd := wd_of 466 (by decide +kernel) (by decide +kernel)
theorem tw_467 : Cond.selects RX6 yX6_over yX6_over ∈ Wd := wd_of 467 (by decide +kernel) (by decide +kernel)
theorem cf_X8_62 : CFv RX8 mX6_over 62 1 := ⟨cp_X6_over, tw_465, tw_466, tw_467⟩
theorem tw_472 : mcode mX6_sum ∈ Wd := wd_of 472 (by decide +kernel) (by decide +kernel)
theorem cp_X6_sum : CFp mX6_sum 2 := ⟨tw_472, tw_80, by decide, by decide, by decide, by decide +kernel⟩
theorem tw_469 : Cond.methodLink RX6 47 yX6_sum ∈ Wd := wd_of 469 (by decide +kernel) (by decide +kernel)
theorem tw_471 : Cond.instanceMethod yX6_sum ∈ Wd := wd_of 471 (by decide +kernel) (by decide +kernel)
theorem tw_3 : Cond.selects RX6 yX6_sum yX6_sum ∈ Wd := wd_of 3 (by decide +kernel) (by decide +kernel)
theorem cf_X6_47 : CFv RX6 mX6_sum 47 2 := ⟨cp_X6_sum, tw_469, tw_471, tw_3⟩
theorem tw_476 : mcode mX6_holds ∈ Wd := wd_of 476 (by decide +kernel) (by decide +kernel)
theorem cp_X6_holds : CFp mX6_holds 3 := ⟨tw_476, tw_80, by decide, by decide, by decide, by decide +kernel⟩
theorem tw_473 : Cond.methodLink RX6 51 yX6_holds ∈ Wd := wd_of 473 (by decide +kernel) (by decide +kernel)
theorem tw_475 : Cond.instanceMethod yX6_holds ∈ Wd := wd_of 475 (by decide +kernel) (by decide +kernel)
theorem tw_4 : Cond.selects RX6 yX6_holds yX6_holds ∈ Wd := wd_of 4 (by decide +kernel) (by decide +kernel)
theorem cf_X6_51 : CFv RX6 mX6_holds 51 3 := ⟨cp_X6_holds, tw_473, tw_475, tw_4⟩
theorem tw_479 : mcode mJ9_max_7cf53 ∈ Wd := wd_of 479 (by decide +kernel) (by decide +kernel)
theorem tw_88 : Cond.initialized RJ9 ∈ Wd := wd_of 88 (by decide +kernel) (by decide +kernel)
theorem cp_J9_max_7cf53 : CFp mJ9_max_7cf53 2 := ⟨tw_479, tw_88, by decide, by decide, by decide, by decide +kernel⟩
theorem tw_477 : Cond.methodLink RX6 41 yJ9_max_7cf53 ∈ Wd := wd_of 477 (by decide +kernel) (by decide +kernel)
theorem tw_478 : Cond.static yJ9_max_7cf53 ∈ Wd := wd_of 478 (by decide +kernel) (by decide +kernel)
theorem cf_X6_41 : CFs RX6 mJ9_max_7cf53 41 2 := ⟨cp_J9_max_7cf53, tw_477, tw_478⟩
theorem tw_482 : mcode mX6_isSo ∈ Wd := wd_of 482 (by decide +kernel) (by decide +kernel)
theorem cp_X6_isSo : CFp mX6_isSo 2 := ⟨tw_482, tw_80, by decide, by decide, by decide, by decide +kernel⟩
theorem tw_480 : Cond.methodLink RX6 55 yX6_isSo ∈ Wd := wd_of 480 (by decide +kernel) (by decide +kernel)
theorem tw_481 : Cond.static yX6_isSo ∈ Wd := wd_of 481 (by decide +kernel) (by decide +kernel)
theorem cf_X6_55 : CFs RX6 mX6_isSo 55 2 := ⟨cp_X6_isSo, tw_480, tw_481⟩
theorem tw_487 : mcode mX6_back ∈ Wd := wd_of 487 (by decide +kernel) (by decide +kernel)
theorem cp_X6_back : CFp mX6_back 1 := ⟨tw_487, tw_80, by decide, by decide, by decide, by decide +kernel⟩
theorem tw_484 : Cond.methodLink RX8 66 yX6_back ∈ Wd := wd_of 484 (by decide +kernel) (by decide +kernel)
theorem tw_485 : Cond.instanceMethod yX6_back ∈ Wd := wd_of 485 (by decide +kernel) (by decide +kernel)
theorem tw_486 : Cond.selects RX6 yX6_back yX6_back ∈ Wd := wd_of 486 (by decide +kernel) (by decide +kernel)
theorem cf_X8_66 : CFv RX8 mX6_back 66 1 := ⟨cp_X6_back, tw_484, tw_485, tw_486⟩
theorem tw_491 : mcode mX8_partsOf ∈ Wd := wd_of 491 (by decide +kernel) (by decide +kernel)
theorem cp_X8_partsOf : CFp mX8_partsOf 1 := ⟨tw_491, tw_81, by decide, by decide, by decide, by decide +kernel⟩
theorem tw_488 : Cond.methodLink RX9 110 yX8_partsOf ∈ Wd := wd_of 488 (by decide +kernel) (by decide +kernel)
theorem tw_489 : Cond.instanceMethod yX8_partsOf ∈ Wd := wd_of 489 (by decide +kernel) (by decide +kernel)
theorem tw_490 : Cond.selects RX8 yX8_partsOf yX8_partsOf ∈ Wd := wd_of 490 (by decide +kernel) (by decide +kernel)
theorem cf_X9_110 : CFv RX9 mX8_partsOf 110 1 := ⟨cp_X8_partsOf, tw_488, tw_489, tw_490⟩
theorem tw_495 : mcode mX8_overOf ∈ Wd := wd_of 495 (by decide +kernel) (by decide +kernel)
theorem cp_X8_overOf : CFp mX8_overOf 3 := ⟨tw_495, tw_81, by decide, by decide, by decide, by decide +kernel⟩
theorem tw_492 : Cond.methodLink RX9 117 yX8_overOf ∈ Wd := wd_of 492 (by decide +kernel) (by decide +kernel)
theorem tw_493 : Cond.instanceMethod yX8_overOf ∈ Wd := wd_of 493 (by decide +kernel) (by decide +kernel)
theorem tw_494 : Cond.selects RX8 yX8_overOf yX8_overOf ∈ Wd := wd_of 494 (by decide +kernel) (by decide +kernel)
theorem cf_X9_117 : CFv RX9 mX8_overOf 117 3 := ⟨cp_X8_overOf, tw_492, tw_493, tw_494⟩
theorem tw_499 : mcode mX8_backOf ∈ Wd := wd_of 499 (by decide +kernel) (by decide +kernel)
theorem cp_X8_backOf : CFp mX8_backOf 3 := ⟨tw_499, tw_81, by decide, by decide, by decide, by decide +kernel⟩
theorem tw_496 : Cond.methodLink RX9 121 yX8_backOf ∈ Wd := wd_of 496 (by decide +kernel) (by decide +kernel)
theorem tw_497 : Cond.instanceMethod yX8_backOf ∈ Wd := wd_of 497 (by decide +kernel) (by decide +kernel)
theorem tw_498 : Cond.selects RX8 yX8_backOf yX8_backOf ∈ Wd := wd_of 498 (by decide +kernel) (by decide +kernel)
theorem cf_X9_121 : CFv RX9 mX8_backOf 121 3 := ⟨cp_X8_backOf, tw_496, tw_497, tw_498⟩
theorem tw_503 : mcode mX8_comesOut ∈ Wd := wd_of 503 (by decide +kernel) (by decide +kernel)
theorem cp_X8_comesOut : CFp mX8_comesOut 3 := ⟨tw_503, tw_81, by decide, by decide, by decide, by decide +kernel⟩
theorem tw_500 : Cond.methodLink RX9 124 yX8_comesOut ∈ Wd := wd_of 500 (by decide +kernel) (by decide +kernel)
theorem tw_501 : Cond.instanceMethod yX8_comesOut ∈ Wd := wd_of 501 (by decide +kernel) (by decide +kernel)
theorem tw_502 : Cond.selects RX8 yX8_comesOut yX8_comesOut ∈ Wd := wd_of 502 (by decide +kernel) (by decide +kernel)
theorem cf_X9_124 : CFv RX9 mX8_comesOut 124 3 := ⟨cp_X8_comesOut, tw_500, tw_501, tw_502⟩
theorem tw_507 : mcode mX8_shareOnce ∈ Wd := wd_of 507 (by decide +kernel) (by decide +kernel)
theorem cp_X8_shareOnce : CFp mX8_shareOnce 2 := ⟨tw_507, tw_81, by decide, by decide, by decide, by decide +kernel⟩
theorem tw_504 : Cond.methodLink RX8 69 yX8_shareOnce ∈ Wd := wd_of 504 (by decide +kernel) (by decide +kernel)
theorem tw_506 : Cond.instanceMethod yX8_shareOnce ∈ Wd := wd_of 506 (by decide +kernel) (by decide +kernel)
theorem tw_5 : Cond.selects RX8 yX8_shareOnce yX8_shareOnce ∈ Wd := wd_of 5 (by decide +kernel) (by decide +kernel)
theorem cf_X8_69 : CFv RX8 mX8_shareOnce 69 2 := ⟨cp_X8_shareOnce, tw_504, tw_506, tw_5⟩
theorem tw_510 : mcode mX8_hiddenOf ∈ Wd := wd_of 510 (by decide +kernel) (by decide +kernel)
theorem cp_X8_hiddenOf : CFp mX8_hiddenOf 4 := ⟨tw_510, tw_81, by decide, by decide, by decide, by decide +kernel⟩
theorem tw_508 : Cond.methodLink RX8 73 yX8_hiddenOf ∈ Wd := wd_of 508 (by decide +kernel) (by decide +kernel)
theorem tw_509 : Cond.static yX8_hiddenOf ∈ Wd := wd_of 509 (by decide +kernel) (by decide +kernel)
theorem cf_X8_73 : CFs RX8 mX8_hiddenOf 73 4 := ⟨cp_X8_hiddenOf, tw_508, tw_509⟩
theorem tw_511 : Cond.methodLink RX8 77 yJ9_max_7cf53 ∈ Wd := wd_of 511 (by decide +kernel) (by decide +kernel)
theorem cf_X8_77 : CFs RX8 mJ9_max_7cf53 77 2 := ⟨cp_J9_max_7cf53, tw_511, tw_478⟩
theorem tw_514 : mcode mJ9_min_7cf53 ∈ Wd := wd_of 514 (by decide +kernel) (by decide +kernel)
theorem cp_J9_min_7cf53 : CFp mJ9_min_7cf53 2 := ⟨tw_514, tw_88, by decide, by decide, by decide, by decide +kernel⟩
theorem tw_512 : Cond.methodLink RX8 83 yJ9_min_7cf53 ∈ Wd := wd_of 512 (by decide +kernel) (by decide +kernel)
theorem tw_513 : Cond.static yJ9_min_7cf53 ∈ Wd := wd_of 513 (by decide +kernel) (by decide +kernel)
theorem cf_X8_83 : CFs RX8 mJ9_min_7cf53 83 2 := ⟨cp_J9_min_7cf53, tw_512, tw_513⟩
theorem tw_518 : mcode mX9_heap ∈ Wd := wd_of 518 (by decide +kernel) (by decide +kernel)
theorem cp_X9_heap : CFp mX9_heap 1 := ⟨tw_518, tw_77, by decide, by decide, by decide, by decide +kernel⟩
theorem tw_515 : Cond.methodLink RL 22 yX9_heap ∈ Wd := wd_of 515 (by decide +kernel) (by decide +kernel)
theorem tw_516 : Cond.instanceMethod yX9_heap ∈ Wd := wd_of 516 (by decide +kernel) (by decide +kernel)
theorem tw_517 : Cond.selects RX9 yX9_heap yX9_heap ∈ Wd := wd_of 517 (by decide +kernel) (by decide +kernel)
theorem cf_L_22 : CFv RL mX9_heap 22 1 := ⟨cp_X9_heap, tw_515, tw_516, tw_517⟩
theorem tw_521 : mcode mX9_isHeap ∈ Wd := wd_of 521 (by decide +kernel) (by decide +kernel)
theorem cp_X9_isHeap : CFp mX9_isHeap 1 := ⟨tw_521, tw_77, by decide, by decide, by decide, by decide +kernel⟩
theorem tw_519 : Cond.methodLink RX9 128 yX9_isHeap ∈ Wd := wd_of 519 (by decide +kernel) (by decide +kernel)
theorem tw_520 : Cond.static yX9_isHeap ∈ Wd := wd_of 520 (by decide +kernel) (by decide +kernel)
theorem cf_X9_128 : CFs RX9 mX9_isHeap 128 1 := ⟨cp_X9_isHeap, tw_519, tw_520⟩
theorem tw_526 : mcode mX9_feed ∈ Wd := wd_of 526 (by decide +kernel) (by decide +kernel)
theorem cp_X9_feed : CFp mX9_feed 1 := ⟨tw_526, tw_77, by decide, by decide, by decide, by decide +kernel⟩
theorem tw_523 : Cond.methodLink RL 27 yX9_feed ∈ Wd := wd_of 523 (by decide +kernel) (by decide +kernel)
theorem tw_524 : Cond.instanceMethod yX9_feed ∈ Wd := wd_of 524 (by decide +kernel) (by decide +kernel)
theorem tw_525 : Cond.selects RX9 yX9_feed yX9_feed ∈ Wd := wd_of 525 (by decide +kernel) (by decide +kernel)
theorem cf_L_27 : CFv RL mX9_feed 27 1 := ⟨cp_X9_feed, tw_523, tw_524, tw_525⟩
theorem tw_530 : mcode mX7_add ∈ Wd := wd_of 530 (by decide +kernel) (by decide +kernel)
theorem cp_X7_add : CFp mX7_add 1 := ⟨tw_530, tw_79, by decide, by decide, by decide, by decide +kernel⟩
theorem tw_527 : Cond.methodLink RX9 131 yX7_add ∈ Wd := wd_of 527 (by decide +kernel) (by decide +kernel)
theorem tw_528 : Cond.instanceMethod yX7_add ∈ Wd := wd_of 528 (by decide +kernel) (by decide +kernel)
theorem tw_529 : Cond.selects RX7 yX7_add yX7_add ∈ Wd := wd_of 529 (by decide +kernel) (by decide +kernel)
theorem cf_X9_131 : CFv RX9 mX7_add 131 1 := ⟨cp_X7_add, tw_527, tw_528, tw_529⟩
theorem tw_534 : mcode mX7_size ∈ Wd := wd_of 534 (by decide +kernel) (by decide +kernel)
theorem cp_X7_size : CFp mX7_size 0 := ⟨tw_534, tw_79, by decide, by decide, by decide, by decide +kernel⟩
theorem tw_531 : Cond.methodLink RX9 134 yX7_size ∈ Wd := wd_of 531 (by decide +kernel) (by decide +kernel)
theorem tw_532 : Cond.instanceMethod yX7_size ∈ Wd := wd_of 532 (by decide +kernel) (by decide +kernel)
theorem tw_533 : Cond.selects RX7 yX7_size yX7_size ∈ Wd := wd_of 533 (by decide +kernel) (by decide +kernel)
theorem cf_X9_134 : CFv RX9 mX7_size 134 0 := ⟨cp_X7_size, tw_531, tw_532, tw_533⟩
theorem tw_538 : mcode mX9_village ∈ Wd := wd_of 538 (by decide +kernel) (by decide +kernel)
theorem cp_X9_village : CFp mX9_village 0 := ⟨tw_538, tw_77, by decide, by decide, by decide, by decide +kernel⟩
theorem tw_535 : Cond.methodLink RL 31 yX9_village ∈ Wd := wd_of 535 (by decide +kernel) (by decide +kernel)
theorem tw_536 : Cond.instanceMethod yX9_village ∈ Wd := wd_of 536 (by decide +kernel) (by decide +kernel)
theorem tw_537 : Cond.selects RX9 yX9_village yX9_village ∈ Wd := wd_of 537 (by decide +kernel) (by decide +kernel)
theorem cf_L_31 : CFv RL mX9_village 31 0 := ⟨cp_X9_village, tw_535, tw_536, tw_537⟩
theorem tw_542 : mcode mX7_readInto ∈ Wd := wd_of 542 (by decide +kernel) (by decide +kernel)
theorem cp_X7_readInto : CFp mX7_readInto 1 := ⟨tw_542, tw_79, by decide, by decide, by decide, by decide +kernel⟩
theorem tw_539 : Cond.methodLink RX9 138 yX7_readInto ∈ Wd := wd_of 539 (by decide +kernel) (by decide +kernel)
theorem tw_540 : Cond.instanceMethod yX7_readInto ∈ Wd := wd_of 540 (by decide +kernel) (by decide +kernel)
theorem tw_541 : Cond.selects RX7 yX7_readInto yX7_readInto ∈ Wd := wd_of 541 (by decide +kernel) (by decide +kernel)
theorem cf_X9_138 : CFv RX9 mX7_readInto 138 1 := ⟨cp_X7_readInto, tw_539, tw_540, tw_541⟩
theorem tw_546 : mcode mX6_clear ∈ Wd := wd_of 546 (by decide +kernel) (by decide +kernel)
theorem cp_X6_clear : CFp mX6_clear 0 := ⟨tw_546, tw_80, by decide, by decide, by decide, by decide +kernel⟩
theorem tw_543 : Cond.methodLink RX7 25 yX6_clear ∈ Wd := wd_of 543 (by decide +kernel) (by decide +kernel)
theorem tw_544 : Cond.instanceMethod yX6_clear ∈ Wd := wd_of 544 (by decide +kernel) (by decide +kernel)
theorem tw_545 : Cond.selects RX6 yX6_clear yX6_clear ∈ Wd := wd_of 545 (by decide +kernel) (by decide +kernel)
theorem cf_X7_25 : CFv RX7 mX6_clear 25 0 := ⟨cp_X6_clear, tw_543, tw_544, tw_545⟩
theorem tw_550 : mcode mX7_goTo ∈ Wd := wd_of 550 (by decide +kernel) (by decide +kernel)
theorem cp_X7_goTo : CFp mX7_goTo 1 := ⟨tw_550, tw_79, by decide, by decide, by decide, by decide +kernel⟩
theorem tw_547 : Cond.methodLink RX7 30 yX7_goTo ∈ Wd := wd_of 547 (by decide +kernel) (by decide +kernel)
theorem tw_549 : Cond.instanceMethod yX7_goTo ∈ Wd := wd_of 549 (by decide +kernel) (by decide +kernel)
theorem tw_6 : Cond.selects RX7 yX7_goTo yX7_goTo ∈ Wd := wd_of 6 (by decide +kernel) (by decide +kernel)
theorem cf_X7_30 : CFv RX7 mX7_goTo 30 1 := ⟨cp_X7_goTo, tw_547, tw_549, tw_6⟩
theorem tw_554 : mcode mX7_clause ∈ Wd := wd_of 554 (by decide +kernel) (by decide +kernel)
theorem cp_X7_clause : CFp mX7_clause 1 := ⟨tw_554, tw_79, by decide, by decide, by decide, by decide +kernel⟩
theorem tw_551 : Cond.methodLink RX7 34 yX7_clause ∈ Wd := wd_of 551 (by decide +kernel) (by decide +kernel)
theorem tw_553 : Cond.instanceMethod yX7_clause ∈ Wd := wd_of 553 (by decide +kernel) (by decide +kernel)
theorem tw_7 : Cond.selects RX7 yX7_clause yX7_clause ∈ Wd := wd_of 7 (by decide +kernel) (by decide +kernel)
theorem cf_X7_34 : CFv RX7 mX7_clause 34 1 := ⟨cp_X7_clause, tw_551, tw_553, tw_7⟩
theorem tw_558 : mcode mX7_word ∈ Wd := wd_of 558 (by decide +kernel) (by decide +kernel)
theorem cp_X7_word : CFp mX7_word 0 := ⟨tw_558, tw_79, by decide, by decide, by decide, by decide +kernel⟩
theorem tw_555 : Cond.methodLink RX7 38 yX7_word ∈ Wd := wd_of 555 (by decide +kernel) (by decide +kernel)
theorem tw_557 : Cond.instanceMethod yX7_word ∈ Wd := wd_of 557 (by decide +kernel) (by decide +kernel)
theorem tw_8 : Cond.selects RX7 yX7_word yX7_word ∈ Wd := wd_of 8 (by decide +kernel) (by decide +kernel)
theorem cf_X7_38 : CFv RX7 mX7_word 38 0 := ⟨cp_X7_word, tw_555, tw_557, tw_8⟩
theorem tw_563 : mcode mX7_spells ∈ Wd := wd_of 563 (by decide +kernel) (by decide +kernel)
theorem cp_X7_spells : CFp mX7_spells 1 := ⟨tw_563, tw_79, by decide, by decide, by decide, by decide +kernel⟩
theorem tw_560 : Cond.methodLink RX7 53 yX7_spells ∈ Wd := wd_of 560 (by decide +kernel) (by decide +kernel)
theorem tw_562 : Cond.instanceMethod yX7_spells ∈ Wd := wd_of 562 (by decide +kernel) (by decide +kernel)
theorem tw_9 : Cond.selects RX7 yX7_spells yX7_spells ∈ Wd := wd_of 9 (by decide +kernel) (by decide +kernel)
theorem cf_X7_53 : CFv RX7 mX7_spells 53 1 := ⟨cp_X7_spells, tw_560, tw_562, tw_9⟩
theorem tw_567 : mcode mJ0_length_8abf5 ∈ Wd := wd_of 567 (by decide +kernel) (by decide +kernel)
theorem tw_89 : Cond.initialized RJ0 ∈ Wd := wd_of 89 (by decide +kernel) (by decide +kernel)
theorem cp_J0_length_8abf5 : CFp mJ0_length_8abf5 0 := ⟨tw_567, tw_89, by decide, by decide, by decide, by decide +kernel⟩
theorem tw_564 : Cond.methodLink RX7 73 yJ0_length_8abf5 ∈ Wd := wd_of 564 (by decide +kernel) (by decide +kernel)
theorem tw_565 : Cond.instanceMethod yJ0_length_8abf5 ∈ Wd := wd_of 565 (by decide +kernel) (by decide +kernel)
theorem tw_566 : Cond.selects RJ0 yJ0_length_8abf5 yJ0_length_8abf5 ∈ Wd := wd_of 566 (by decide +kernel) (by decide +kernel)
theorem cf_X7_73 : CFv RX7 mJ0_length_8abf5 73 0 := ⟨cp_J0_length_8abf5, tw_564, tw_565, tw_566⟩
theorem tw_571 : mcode mJ0_coder_7d493 ∈ Wd := wd_of 571 (by decide +kernel) (by decide +kernel)
theorem cp_J0_coder_7d493 : CFp mJ0_coder_7d493 0 := ⟨tw_571, tw_89, by decide, by decide, by decide, by decide +kernel⟩
theorem tw_568 : Cond.methodLink RJ0 335 yJ0_coder_7d493 ∈ Wd := wd_of 568 (by decide +kernel) (by decide +kernel)
theorem tw_569 : Cond.instanceMethod yJ0_coder_7d493 ∈ Wd := wd_of 569 (by decide +kernel) (by decide +kernel)
theorem tw_570 : Cond.selects RJ0 yJ0_coder_7d493 yJ0_coder_7d493 ∈ Wd := wd_of 570 (by decide +kernel) (by decide +kernel)
theorem cf_J0_335 : CFv RJ0 mJ0_coder_7d493 335 0 := ⟨cp_J0_coder_7d493, tw_568, tw_569, tw_570⟩
theorem tw_577 : mcode mJ0_charAt_5068e ∈ Wd := wd_of 577 (by decide +kernel) (by decide +kernel)
theorem cp_J0_charAt_5068e : CFp mJ0_charAt_5068e 1 := ⟨tw_577, tw_89, by decide, by decide, by decide, by decide +kernel⟩
theorem tw_574 : Cond.methodLink RX7 77 yJ0_charAt_5068e ∈ Wd := wd_of 574 (by decide +kernel) (by decide +kernel)
theorem tw_575 : Cond.instanceMethod yJ0_charAt_5068e ∈ Wd := wd_of 575 (by decide +kernel) (by decide +kernel)
theorem tw_576 : Cond.selects RJ0 yJ0_charAt_5068e yJ0_charAt_5068e ∈ Wd := wd_of 576 (by decide +kernel) (by decide +kernel)
theorem cf_X7_77 : CFv RX7 mJ0_charAt_5068e 77 1 := ⟨cp_J0_charAt_5068e, tw_574, tw_575, tw_576⟩
theorem tw_581 : mcode mJ0_isLatin1_aae02 ∈ Wd := wd_of 581 (by decide +kernel) (by decide +kernel)
theorem cp_J0_isLatin1_aae02 : CFp mJ0_isLatin1_aae02 0 := ⟨tw_581, tw_89, by decide, by decide, by decide, by decide +kernel⟩
theorem tw_578 : Cond.methodLink RJ0 492 yJ0_isLatin1_aae02 ∈ Wd := wd_of 578 (by decide +kernel) (by decide +kernel)
theorem tw_579 : Cond.instanceMethod yJ0_isLatin1_aae02 ∈ Wd := wd_of 579 (by decide +kernel) (by decide +kernel)
theorem tw_580 : Cond.selects RJ0 yJ0_isLatin1_aae02 yJ0_isLatin1_aae02 ∈ Wd := wd_of 580 (by decide +kernel) (by decide +kernel)
theorem cf_J0_492 : CFv RJ0 mJ0_isLatin1_aae02 492 0 := ⟨cp_J0_isLatin1_aae02, tw_578, tw_579, tw_580⟩
theorem tw_584 : mcode mJ1_charAt_3b067 ∈ Wd := wd_of 584 (by decide +kernel) (by decide +kernel)
theorem tw_90 : Cond.initialized RJ1 ∈ Wd := wd_of 90 (by decide +kernel) (by decide +kernel)
theorem cp_J1_charAt_3b067 : CFp mJ1_charAt_3b067 2 := ⟨tw_584, tw_90, by decide, by decide, by decide, by decide +kernel⟩
theorem tw_582 : Cond.methodLink RJ0 495 yJ1_charAt_3b067 ∈ Wd := wd_of 582 (by decide +kernel) (by decide +kernel)
theorem tw_583 : Cond.static yJ1_charAt_3b067 ∈ Wd := wd_of 583 (by decide +kernel) (by decide +kernel)
theorem cf_J0_495 : CFs RJ0 mJ1_charAt_3b067 495 2 := ⟨cp_J1_charAt_3b067, tw_582, tw_583⟩
theorem tw_587 : mcode mJ0_checkIndex_df160 ∈ Wd := wd_of 587 (by decide +kernel) (by decide +kernel)
theorem cp_J0_checkIndex_df160 : CFp mJ0_checkIndex_df160 2 := ⟨tw_587, tw_89, by decide, by decide, by decide, by decide +kernel⟩
theorem tw_585 : Cond.methodLink RJ1 9 yJ0_checkIndex_df160 ∈ Wd := wd_of 585 (by decide +kernel) (by decide +kernel)
theorem tw_586 : Cond.static yJ0_checkIndex_df160 ∈ Wd := wd_of 586 (by decide +kernel) (by decide +kernel)
theorem cf_J1_9 : CFs RJ1 mJ0_checkIndex_df160 9 2 := ⟨cp_J0_checkIndex_df160, tw_585, tw_586⟩
theorem tw_592 : mcode mJ3_checkIndex_8e157 ∈ Wd := wd_of 592 (by decide +kernel) (by decide +kernel)
theorem tw_91 : Cond.initialized RJ3 ∈ Wd := wd_of 91 (by decide +kernel) (by decide +kernel)
theorem cp_J3_checkIndex_8e157 : CFp mJ3_checkIndex_8e157 3 := ⟨tw_592, tw_91, by decide, by decide, by decide, by decide +kernel⟩
theorem tw_590 : Cond.methodLink RJ0 1059 yJ3_checkIndex_8e157 ∈ Wd := wd_of 590 (by decide +kernel) (by decide +kernel)
theorem tw_591 : Cond.static yJ3_checkIndex_8e157 ∈ Wd := wd_of 591 (by decide +kernel) (by decide +kernel)
theorem cf_J0_1059 : CFs RJ0 mJ3_checkIndex_8e157 1059 3 := ⟨cp_J3_checkIndex_8e157, tw_590, tw_591⟩
theorem tw_595 : mcode mJ2_charAt_3b067 ∈ Wd := wd_of 595 (by decide +kernel) (by decide +kernel)
theorem tw_92 : Cond.initialized RJ2 ∈ Wd := wd_of 92 (by decide +kernel) (by decide +kernel)
theorem cp_J2_charAt_3b067 : CFp mJ2_charAt_3b067 2 := ⟨tw_595, tw_92, by decide, by decide, by decide, by decide +kernel⟩
theorem tw_593 : Cond.methodLink RJ0 498 yJ2_charAt_3b067 ∈ Wd := wd_of 593 (by decide +kernel) (by decide +kernel)
theorem tw_594 : Cond.static yJ2_charAt_3b067 ∈ Wd := wd_of 594 (by decide +kernel) (by decide +kernel)
theorem cf_J0_498 : CFs RJ0 mJ2_charAt_3b067 498 2 := ⟨cp_J2_charAt_3b067, tw_593, tw_594⟩
theorem tw_598 : mcode mJ2_checkIndex_2214a ∈ Wd := wd_of 598 (by decide +kernel) (by decide +kernel)
theorem cp_J2_checkIndex_2214a : CFp mJ2_checkIndex_2214a 2 := ⟨tw_598, tw_92, by decide, by decide, by decide, by decide +kernel⟩
theorem tw_596 : Cond.methodLink RJ2 67 yJ2_checkIndex_2214a ∈ Wd := wd_of 596 (by decide +kernel) (by decide +kernel)
theorem tw_597 : Cond.static yJ2_checkIndex_2214a ∈ Wd := wd_of 597 (by decide +kernel) (by decide +kernel)
theorem cf_J2_67 : CFs RJ2 mJ2_checkIndex_2214a 67 2 := ⟨cp_J2_checkIndex_2214a, tw_596, tw_597⟩
theorem tw_601 : mcode mJ2_length_9d52b ∈ Wd := wd_of 601 (by decide +kernel) (by decide +kernel)
theorem cp_J2_length_9d52b : CFp mJ2_length_9d52b 1 := ⟨tw_601, tw_92, by decide, by decide, by decide, by decide +kernel⟩
theorem tw_599 : Cond.methodLink RJ2 48 yJ2_length_9d52b ∈ Wd := wd_of 599 (by decide +kernel) (by decide +kernel)
theorem tw_600 : Cond.static yJ2_length_9d52b ∈ Wd := wd_of 600 (by decide +kernel) (by decide +kernel)
theorem cf_J2_48 : CFs RJ2 mJ2_length_9d52b 48 1 := ⟨cp_J2_length_9d52b, tw_599, tw_600⟩
theorem tw_602 : Cond.methodLink RJ2 414 yJ0_checkIndex_df160 ∈ Wd := wd_of 602 (by decide +kernel) (by decide +kernel)
theorem cf_J2_414 : CFs RJ2 mJ0_checkIndex_df160 414 2 := ⟨cp_J0_checkIndex_df160, tw_602, tw_586⟩
theorem tw_605 : mcode mJ2_getChar_3b067 ∈ Wd := wd_of 605 (by decide +kernel) (by decide +kernel)
theorem cp_J2_getChar_3b067 : CFp mJ2_getChar_3b067 2 := ⟨tw_605, tw_92, by decide, by decide, by decide, by decide +kernel⟩
theorem tw_603 : Cond.methodLink RJ2 71 yJ2_getChar_3b067 ∈ Wd := wd_of 603 (by decide +kernel) (by decide +kernel)
theorem tw_604 : Cond.static yJ2_getChar_3b067 ∈ Wd := wd_of 604 (by decide +kernel) (by decide +kernel)
theorem cf_J2_71 : CFs RJ2 mJ2_getChar_3b067 71 2 := ⟨cp_J2_getChar_3b067, tw_603, tw_604⟩
theorem tw_618 : mcode mX7_number ∈ Wd := wd_of 618 (by decide +kernel) (by decide +kernel)
theorem cp_X7_number : CFp mX7_number 0 := ⟨tw_618, tw_79, by decide, by decide, by decide, by decide +kernel⟩
theorem tw_615 : Cond.methodLink RX7 42 yX7_number ∈ Wd := wd_of 615 (by decide +kernel) (by decide +kernel)
theorem tw_617 : Cond.instanceMethod yX7_number ∈ Wd := wd_of 617 (by decide +kernel) (by decide +kernel)
theorem tw_10 : Cond.selects RX7 yX7_number yX7_number ∈ Wd := wd_of 10 (by decide +kernel) (by decide +kernel)
theorem cf_X7_42 : CFv RX7 mX7_number 42 0 := ⟨cp_X7_number, tw_615, tw_617, tw_10⟩
theorem tw_622 : mcode mX6_setShares ∈ Wd := wd_of 622 (by decide +kernel) (by decide +kernel)
theorem cp_X6_setShares : CFp mX6_setShares 1 := ⟨tw_622, tw_80, by decide, by decide, by decide, by decide +kernel⟩
theorem tw_619 : Cond.methodLink RX7 45 yX6_setShares ∈ Wd := wd_of 619 (by decide +kernel) (by decide +kernel)
theorem tw_620 : Cond.instanceMethod yX6_setShares ∈ Wd := wd_of 620 (by decide +kernel) (by decide +kernel)
theorem tw_621 : Cond.selects RX6 yX6_setShares yX6_setShares ∈ Wd := wd_of 621 (by decide +kernel) (by decide +kernel)
theorem cf_X7_45 : CFv RX7 mX6_setShares 45 1 := ⟨cp_X6_setShares, tw_619, tw_620, tw_621⟩
theorem tw_627 : mcode mX7_either ∈ Wd := wd_of 627 (by decide +kernel) (by decide +kernel)
theorem cp_X7_either : CFp mX7_either 2 := ⟨tw_627, tw_79, by decide, by decide, by decide, by decide +kernel⟩
theorem tw_624 : Cond.methodLink RX7 57 yX7_either ∈ Wd := wd_of 624 (by decide +kernel) (by decide +kernel)
theorem tw_626 : Cond.instanceMethod yX7_either ∈ Wd := wd_of 626 (by decide +kernel) (by decide +kernel)
theorem tw_11 : Cond.selects RX7 yX7_either yX7_either ∈ Wd := wd_of 11 (by decide +kernel) (by decide +kernel)
theorem cf_X7_57 : CFv RX7 mX7_either 57 2 := ⟨cp_X7_either, tw_624, tw_626, tw_11⟩
theorem tw_631 : mcode mX7_both ∈ Wd := wd_of 631 (by decide +kernel) (by decide +kernel)
theorem cp_X7_both : CFp mX7_both 2 := ⟨tw_631, tw_79, by decide, by decide, by decide, by decide +kernel⟩
theorem tw_628 : Cond.methodLink RX7 81 yX7_both ∈ Wd := wd_of 628 (by decide +kernel) (by decide +kernel)
theorem tw_630 : Cond.instanceMethod yX7_both ∈ Wd := wd_of 630 (by decide +kernel) (by decide +kernel)
theorem tw_12 : Cond.selects RX7 yX7_both yX7_both ∈ Wd := wd_of 12 (by decide +kernel) (by decide +kernel)
theorem cf_X7_81 : CFv RX7 mX7_both 81 2 := ⟨cp_X7_both, tw_628, tw_630, tw_12⟩
theorem tw_635 : mcode mX7_factor ∈ Wd := wd_of 635 (by decide +kernel) (by decide +kernel)
theorem cp_X7_factor : CFp mX7_factor 2 := ⟨tw_635, tw_79, by decide, by decide, by decide, by decide +kernel⟩
theorem tw_632 : Cond.methodLink RX7 87 yX7_factor ∈ Wd := wd_of 632 (by decide +kernel) (by decide +kernel)
theorem tw_634 : Cond.instanceMethod yX7_factor ∈ Wd := wd_of 634 (by decide +kernel) (by decide +kernel)
theorem tw_13 : Cond.selects RX7 yX7_factor yX7_factor ∈ Wd := wd_of 13 (by decide +kernel) (by decide +kernel)
theorem cf_X7_87 : CFv RX7 mX7_factor 87 2 := ⟨cp_X7_factor, tw_632, tw_634, tw_13⟩
theorem tw_639 : mcode mX7_nested ∈ Wd := wd_of 639 (by decide +kernel) (by decide +kernel)
theorem cp_X7_nested : CFp mX7_nested 2 := ⟨tw_639, tw_79, by decide, by decide, by decide, by decide +kernel⟩
theorem tw_636 : Cond.methodLink RX7 90 yX7_nested ∈ Wd := wd_of 636 (by decide +kernel) (by decide +kernel)
theorem tw_638 : Cond.instanceMethod yX7_nested ∈ Wd := wd_of 638 (by decide +kernel) (by decide +kernel)
theorem tw_14 : Cond.selects RX7 yX7_nested yX7_nested ∈ Wd := wd_of 14 (by decide +kernel) (by decide +kernel)
theorem cf_X7_90 : CFv RX7 mX7_nested 90 2 := ⟨cp_X7_nested, tw_636, tw_638, tw_14⟩
theorem tw_643 : mcode mX6_addStep ∈ Wd := wd_of 643 (by decide +kernel) (by decide +kernel)
theorem cp_X6_addStep : CFp mX6_addStep 1 := ⟨tw_643, tw_80, by decide, by decide, by decide, by decide +kernel⟩
theorem tw_640 : Cond.methodLink RX7 84 yX6_addStep ∈ Wd := wd_of 640 (by decide +kernel) (by decide +kernel)
theorem tw_641 : Cond.instanceMethod yX6_addStep ∈ Wd := wd_of 641 (by decide +kernel) (by decide +kernel)
theorem tw_642 : Cond.selects RX6 yX6_addStep yX6_addStep ∈ Wd := wd_of 642 (by decide +kernel) (by decide +kernel)
theorem cf_X7_84 : CFv RX7 mX6_addStep 84 1 := ⟨cp_X6_addStep, tw_640, tw_641, tw_642⟩
theorem tw_647 : mcode mX7_indexIn ∈ Wd := wd_of 647 (by decide +kernel) (by decide +kernel)
theorem cp_X7_indexIn : CFp mX7_indexIn 2 := ⟨tw_647, tw_79, by decide, by decide, by decide, by decide +kernel⟩
theorem tw_645 : Cond.methodLink RX7 95 yX7_indexIn ∈ Wd := wd_of 645 (by decide +kernel) (by decide +kernel)
theorem tw_646 : Cond.static yX7_indexIn ∈ Wd := wd_of 646 (by decide +kernel) (by decide +kernel)
theorem cf_X7_95 : CFs RX7 mX7_indexIn 95 2 := ⟨cp_X7_indexIn, tw_645, tw_646⟩
theorem tw_652 : mcode mX6_addRule ∈ Wd := wd_of 652 (by decide +kernel) (by decide +kernel)
theorem cp_X6_addRule : CFp mX6_addRule 2 := ⟨tw_652, tw_80, by decide, by decide, by decide, by decide +kernel⟩
theorem tw_649 : Cond.methodLink RX7 61 yX6_addRule ∈ Wd := wd_of 649 (by decide +kernel) (by decide +kernel)
theorem tw_650 : Cond.instanceMethod yX6_addRule ∈ Wd := wd_of 650 (by decide +kernel) (by decide +kernel)
theorem tw_651 : Cond.selects RX6 yX6_addRule yX6_addRule ∈ Wd := wd_of 651 (by decide +kernel) (by decide +kernel)
theorem cf_X7_61 : CFv RX7 mX6_addRule 61 2 := ⟨cp_X6_addRule, tw_649, tw_650, tw_651⟩
theorem tw_656 : mcode mX7_clear ∈ Wd := wd_of 656 (by decide +kernel) (by decide +kernel)
theorem cp_X7_clear : CFp mX7_clear 0 := ⟨tw_656, tw_79, by decide, by decide, by decide, by decide +kernel⟩
theorem tw_653 : Cond.methodLink RX9 142 yX7_clear ∈ Wd := wd_of 653 (by decide +kernel) (by decide +kernel)
theorem tw_654 : Cond.instanceMethod yX7_clear ∈ Wd := wd_of 654 (by decide +kernel) (by decide +kernel)
theorem tw_655 : Cond.selects RX7 yX7_clear yX7_clear ∈ Wd := wd_of 655 (by decide +kernel) (by decide +kernel)
theorem cf_X9_142 : CFv RX9 mX7_clear 142 0 := ⟨cp_X7_clear, tw_653, tw_654, tw_655⟩
theorem tw_660 : mcode mX9_told ∈ Wd := wd_of 660 (by decide +kernel) (by decide +kernel)
theorem cp_X9_told : CFp mX9_told 1 := ⟨tw_660, tw_77, by decide, by decide, by decide, by decide +kernel⟩
theorem tw_657 : Cond.methodLink RL 36 yX9_told ∈ Wd := wd_of 657 (by decide +kernel) (by decide +kernel)
theorem tw_658 : Cond.instanceMethod yX9_told ∈ Wd := wd_of 658 (by decide +kernel) (by decide +kernel)
theorem tw_659 : Cond.selects RX9 yX9_told yX9_told ∈ Wd := wd_of 659 (by decide +kernel) (by decide +kernel)
theorem cf_L_36 : CFv RL mX9_told 36 1 := ⟨cp_X9_told, tw_657, tw_658, tw_659⟩
theorem tw_664 : mcode mX9_wake ∈ Wd := wd_of 664 (by decide +kernel) (by decide +kernel)
theorem cp_X9_wake : CFp mX9_wake 1 := ⟨tw_664, tw_77, by decide, by decide, by decide, by decide +kernel⟩
theorem tw_661 : Cond.methodLink RL 40 yX9_wake ∈ Wd := wd_of 661 (by decide +kernel) (by decide +kernel)
theorem tw_662 : Cond.instanceMethod yX9_wake ∈ Wd := wd_of 662 (by decide +kernel) (by decide +kernel)
theorem tw_663 : Cond.selects RX9 yX9_wake yX9_wake ∈ Wd := wd_of 663 (by decide +kernel) (by decide +kernel)
theorem cf_L_40 : CFv RL mX9_wake 40 1 := ⟨cp_X9_wake, tw_661, tw_662, tw_663⟩
theorem tw_668 : mcode mX9_row ∈ Wd := wd_of 668 (by decide +kernel) (by decide +kernel)
theorem cp_X9_row : CFp mX9_row 1 := ⟨tw_668, tw_77, by decide, by decide, by decide, by decide +kernel⟩
theorem tw_665 : Cond.methodLink RL 44 yX9_row ∈ Wd := wd_of 665 (by decide +kernel) (by decide +kernel)
theorem tw_666 : Cond.instanceMethod yX9_row ∈ Wd := wd_of 666 (by decide +kernel) (by decide +kernel)
theorem tw_667 : Cond.selects RX9 yX9_row yX9_row ∈ Wd := wd_of 667 (by decide +kernel) (by decide +kernel)
theorem cf_L_44 : CFv RL mX9_row 44 1 := ⟨cp_X9_row, tw_665, tw_666, tw_667⟩
theorem tw_672 : mcode mX9_night ∈ Wd := wd_of 672 (by decide +kernel) (by decide +kernel)
theorem cp_X9_night : CFp mX9_night 1 := ⟨tw_672, tw_77, by decide, by decide, by decide, by decide +kernel⟩
theorem tw_669 : Cond.methodLink RL 48 yX9_night ∈ Wd := wd_of 669 (by decide +kernel) (by decide +kernel)
theorem tw_670 : Cond.instanceMethod yX9_night ∈ Wd := wd_of 670 (by decide +kernel) (by decide +kernel)
theorem tw_671 : Cond.selects RX9 yX9_night yX9_night ∈ Wd := wd_of 671 (by decide +kernel) (by decide +kernel)
theorem cf_L_48 : CFv RL mX9_night 48 1 := ⟨cp_X9_night, tw_669, tw_670, tw_671⟩
theorem tw_676 : mcode mX9_readyNight ∈ Wd := wd_of 676 (by decide +kernel) (by decide +kernel)
theorem cp_X9_readyNight : CFp mX9_readyNight 0 := ⟨tw_676, tw_77, by decide, by decide, by decide, by decide +kernel⟩
theorem tw_673 : Cond.methodLink RX9 177 yX9_readyNight ∈ Wd := wd_of 673 (by decide +kernel) (by decide +kernel)
theorem tw_675 : Cond.instanceMethod yX9_readyNight ∈ Wd := wd_of 675 (by decide +kernel) (by decide +kernel)
theorem tw_15 : Cond.selects RX9 yX9_readyNight yX9_readyNight ∈ Wd := wd_of 15 (by decide +kernel) (by decide +kernel)
theorem cf_X9_177 : CFv RX9 mX9_readyNight 177 0 := ⟨cp_X9_readyNight, tw_673, tw_675, tw_15⟩
theorem tw_680 : mcode mX3_begin ∈ Wd := wd_of 680 (by decide +kernel) (by decide +kernel)
theorem cp_X3_begin : CFp mX3_begin 2 := ⟨tw_680, tw_82, by decide, by decide, by decide, by decide +kernel⟩
theorem tw_677 : Cond.methodLink RX9 319 yX3_begin ∈ Wd := wd_of 677 (by decide +kernel) (by decide +kernel)
theorem tw_678 : Cond.instanceMethod yX3_begin ∈ Wd := wd_of 678 (by decide +kernel) (by decide +kernel)
theorem tw_679 : Cond.selects RX3 yX3_begin yX3_begin ∈ Wd := wd_of 679 (by decide +kernel) (by decide +kernel)
theorem cf_X9_319 : CFv RX9 mX3_begin 319 2 := ⟨cp_X3_begin, tw_677, tw_678, tw_679⟩
theorem tw_681 : Cond.methodLink RX3 50 yJ9_min_7cf53 ∈ Wd := wd_of 681 (by decide +kernel) (by decide +kernel)
theorem cf_X3_50 : CFs RX3 mJ9_min_7cf53 50 2 := ⟨cp_J9_min_7cf53, tw_681, tw_513⟩
theorem tw_682 : Cond.methodLink RX3 56 yX8_begin ∈ Wd := wd_of 682 (by decide +kernel) (by decide +kernel)
theorem cf_X3_56 : CFv RX3 mX8_begin 56 2 := ⟨cp_X8_begin, tw_682, tw_452, tw_453⟩
theorem tw_683 : Cond.methodLink RX3 61 yX8_reckon ∈ Wd := wd_of 683 (by decide +kernel) (by decide +kernel)
theorem cf_X3_61 : CFv RX3 mX8_reckon 61 3 := ⟨cp_X8_reckon, tw_683, tw_459, tw_460⟩
theorem tw_687 : mcode mX3_comesOut ∈ Wd := wd_of 687 (by decide +kernel) (by decide +kernel)
theorem cp_X3_comesOut : CFp mX3_comesOut 1 := ⟨tw_687, tw_82, by decide, by decide, by decide, by decide +kernel⟩
theorem tw_684 : Cond.methodLink RX9 181 yX3_comesOut ∈ Wd := wd_of 684 (by decide +kernel) (by decide +kernel)
theorem tw_685 : Cond.instanceMethod yX3_comesOut ∈ Wd := wd_of 685 (by decide +kernel) (by decide +kernel)
theorem tw_686 : Cond.selects RX3 yX3_comesOut yX3_comesOut ∈ Wd := wd_of 686 (by decide +kernel) (by decide +kernel)
theorem cf_X9_181 : CFv RX9 mX3_comesOut 181 1 := ⟨cp_X3_comesOut, tw_684, tw_685, tw_686⟩
theorem tw_691 : mcode mX3_walks ∈ Wd := wd_of 691 (by decide +kernel) (by decide +kernel)
theorem cp_X3_walks : CFp mX3_walks 2 := ⟨tw_691, tw_82, by decide, by decide, by decide, by decide +kernel⟩
theorem tw_688 : Cond.methodLink RX3 72 yX3_walks ∈ Wd := wd_of 688 (by decide +kernel) (by decide +kernel)
theorem tw_689 : Cond.instanceMethod yX3_walks ∈ Wd := wd_of 689 (by decide +kernel) (by decide +kernel)
theorem tw_690 : Cond.selects RX3 yX3_walks yX3_walks ∈ Wd := wd_of 690 (by decide +kernel) (by decide +kernel)
theorem cf_X3_72 : CFv RX3 mX3_walks 72 2 := ⟨cp_X3_walks, tw_688, tw_689, tw_690⟩
theorem tw_692 : Cond.methodLink RX3 65 yX8_comesOut ∈ Wd := wd_of 692 (by decide +kernel) (by decide +kernel)
theorem cf_X3_65 : CFv RX3 mX8_comesOut 65 3 := ⟨cp_X8_comesOut, tw_692, tw_501, tw_502⟩
theorem tw_696 : mcode mX9_least ∈ Wd := wd_of 696 (by decide +kernel) (by decide +kernel)
theorem cp_X9_least : CFp mX9_least 1 := ⟨tw_696, tw_77, by decide, by decide, by decide, by decide +kernel⟩
theorem tw_693 : Cond.methodLink RL 52 yX9_least ∈ Wd := wd_of 693 (by decide +kernel) (by decide +kernel)
theorem tw_694 : Cond.instanceMethod yX9_least ∈ Wd := wd_of 694 (by decide +kernel) (by decide +kernel)
theorem tw_695 : Cond.selects RX9 yX9_least yX9_least ∈ Wd := wd_of 695 (by decide +kernel) (by decide +kernel)
theorem cf_L_52 : CFv RL mX9_least 52 1 := ⟨cp_X9_least, tw_693, tw_694, tw_695⟩
theorem tw_700 : mcode mX3_first ∈ Wd := wd_of 700 (by decide +kernel) (by decide +kernel)
theorem cp_X3_first : CFp mX3_first 2 := ⟨tw_700, tw_82, by decide, by decide, by decide, by decide +kernel⟩
theorem tw_697 : Cond.methodLink RX9 183 yX3_first ∈ Wd := wd_of 697 (by decide +kernel) (by decide +kernel)
theorem tw_698 : Cond.instanceMethod yX3_first ∈ Wd := wd_of 698 (by decide +kernel) (by decide +kernel)
theorem tw_699 : Cond.selects RX3 yX3_first yX3_first ∈ Wd := wd_of 699 (by decide +kernel) (by decide +kernel)
theorem cf_X9_183 : CFv RX9 mX3_first 183 2 := ⟨cp_X3_first, tw_697, tw_698, tw_699⟩
theorem tw_701 : Cond.methodLink RX3 76 yX3_comesOut ∈ Wd := wd_of 701 (by decide +kernel) (by decide +kernel)
theorem cf_X3_76 : CFv RX3 mX3_comesOut 76 1 := ⟨cp_X3_comesOut, tw_701, tw_685, tw_686⟩
theorem tw_705 : mcode mX9_all ∈ Wd := wd_of 705 (by decide +kernel) (by decide +kernel)
theorem cp_X9_all : CFp mX9_all 1 := ⟨tw_705, tw_77, by decide, by decide, by decide, by decide +kernel⟩
theorem tw_702 : Cond.methodLink RL 56 yX9_all ∈ Wd := wd_of 702 (by decide +kernel) (by decide +kernel)
theorem tw_703 : Cond.instanceMethod yX9_all ∈ Wd := wd_of 703 (by decide +kernel) (by decide +kernel)
theorem tw_704 : Cond.selects RX9 yX9_all yX9_all ∈ Wd := wd_of 704 (by decide +kernel) (by decide +kernel)
theorem cf_L_56 : CFv RL mX9_all 56 1 := ⟨cp_X9_all, tw_702, tw_703, tw_704⟩
theorem tw_708 : mcode mX9_isBound ∈ Wd := wd_of 708 (by decide +kernel) (by decide +kernel)
theorem cp_X9_isBound : CFp mX9_isBound 1 := ⟨tw_708, tw_77, by decide, by decide, by decide, by decide +kernel⟩
theorem tw_706 : Cond.methodLink RX9 187 yX9_isBound ∈ Wd := wd_of 706 (by decide +kernel) (by decide +kernel)
theorem tw_707 : Cond.static yX9_isBound ∈ Wd := wd_of 707 (by decide +kernel) (by decide +kernel)
theorem cf_X9_187 : CFs RX9 mX9_isBound 187 1 := ⟨cp_X9_isBound, tw_706, tw_707⟩
theorem tw_712 : mcode mX3_howMany ∈ Wd := wd_of 712 (by decide +kernel) (by decide +kernel)
theorem cp_X3_howMany : CFp mX3_howMany 2 := ⟨tw_712, tw_82, by decide, by decide, by decide, by decide +kernel⟩
theorem tw_709 : Cond.methodLink RX9 190 yX3_howMany ∈ Wd := wd_of 709 (by decide +kernel) (by decide +kernel)
theorem tw_710 : Cond.instanceMethod yX3_howMany ∈ Wd := wd_of 710 (by decide +kernel) (by decide +kernel)
theorem tw_711 : Cond.selects RX3 yX3_howMany yX3_howMany ∈ Wd := wd_of 711 (by decide +kernel) (by decide +kernel)
theorem cf_X9_190 : CFv RX9 mX3_howMany 190 2 := ⟨cp_X3_howMany, tw_709, tw_710, tw_711⟩
theorem tw_716 : mcode mX9_greatest ∈ Wd := wd_of 716 (by decide +kernel) (by decide +kernel)
theorem cp_X9_greatest : CFp mX9_greatest 1 := ⟨tw_716, tw_77, by decide, by decide, by decide, by decide +kernel⟩
theorem tw_713 : Cond.methodLink RL 60 yX9_greatest ∈ Wd := wd_of 713 (by decide +kernel) (by decide +kernel)
theorem tw_714 : Cond.instanceMethod yX9_greatest ∈ Wd := wd_of 714 (by decide +kernel) (by decide +kernel)
theorem tw_715 : Cond.selects RX9 yX9_greatest yX9_greatest ∈ Wd := wd_of 715 (by decide +kernel) (by decide +kernel)
theorem cf_L_60 : CFv RL mX9_greatest 60 1 := ⟨cp_X9_greatest, tw_713, tw_714, tw_715⟩
theorem tw_720 : mcode mX3_last ∈ Wd := wd_of 720 (by decide +kernel) (by decide +kernel)
theorem cp_X3_last : CFp mX3_last 1 := ⟨tw_720, tw_82, by decide, by decide, by decide, by decide +kernel⟩
theorem tw_717 : Cond.methodLink RX9 193 yX3_last ∈ Wd := wd_of 717 (by decide +kernel) (by decide +kernel)
theorem tw_718 : Cond.instanceMethod yX3_last ∈ Wd := wd_of 718 (by decide +kernel) (by decide +kernel)
theorem tw_719 : Cond.selects RX3 yX3_last yX3_last ∈ Wd := wd_of 719 (by decide +kernel) (by decide +kernel)
theorem cf_X9_193 : CFv RX9 mX3_last 193 1 := ⟨cp_X3_last, tw_717, tw_718, tw_719⟩
theorem tw_724 : mcode mX9_left ∈ Wd := wd_of 724 (by decide +kernel) (by decide +kernel)
theorem cp_X9_left : CFp mX9_left 2 := ⟨tw_724, tw_77, by decide, by decide, by decide, by decide +kernel⟩
theorem tw_721 : Cond.methodLink RL 64 yX9_left ∈ Wd := wd_of 721 (by decide +kernel) (by decide +kernel)
theorem tw_722 : Cond.instanceMethod yX9_left ∈ Wd := wd_of 722 (by decide +kernel) (by decide +kernel)
theorem tw_723 : Cond.selects RX9 yX9_left yX9_left ∈ Wd := wd_of 723 (by decide +kernel) (by decide +kernel)
theorem cf_L_64 : CFv RL mX9_left 64 2 := ⟨cp_X9_left, tw_721, tw_722, tw_723⟩
theorem tw_725 : Cond.methodLink RX9 196 yX3_walks ∈ Wd := wd_of 725 (by decide +kernel) (by decide +kernel)
theorem cf_X9_196 : CFv RX9 mX3_walks 196 2 := ⟨cp_X3_walks, tw_725, tw_689, tw_690⟩
theorem tw_729 : mcode mX9_was ∈ Wd := wd_of 729 (by decide +kernel) (by decide +kernel)
theorem cp_X9_was : CFp mX9_was 1 := ⟨tw_729, tw_77, by decide, by decide, by decide, by decide +kernel⟩
theorem tw_726 : Cond.methodLink RL 68 yX9_was ∈ Wd := wd_of 726 (by decide +kernel) (by decide +kernel)
theorem tw_727 : Cond.instanceMethod yX9_was ∈ Wd := wd_of 727 (by decide +kernel) (by decide +kernel)
theorem tw_728 : Cond.selects RX9 yX9_was yX9_was ∈ Wd := wd_of 728 (by decide +kernel) (by decide +kernel)
theorem cf_L_68 : CFv RL mX9_was 68 1 := ⟨cp_X9_was, tw_726, tw_727, tw_728⟩
theorem tw_733 : mcode mX3_firstThatLeaves ∈ Wd := wd_of 733 (by decide +kernel) (by decide +kernel)
theorem cp_X3_firstThatLeaves : CFp mX3_firstThatLeaves 2 := ⟨tw_733, tw_82, by decide, by decide, by decide, by decide +kernel⟩
theorem tw_730 : Cond.methodLink RX9 203 yX3_firstThatLeaves ∈ Wd := wd_of 730 (by decide +kernel) (by decide +kernel)
theorem tw_731 : Cond.instanceMethod yX3_firstThatLeaves ∈ Wd := wd_of 731 (by decide +kernel) (by decide +kernel)
theorem tw_732 : Cond.selects RX3 yX3_firstThatLeaves yX3_firstThatLeaves ∈ Wd := wd_of 732 (by decide +kernel) (by decide +kernel)
theorem cf_X9_203 : CFv RX9 mX3_firstThatLeaves 203 2 := ⟨cp_X3_firstThatLeaves, tw_730, tw_731, tw_732⟩
theorem tw_737 : mcode mX9_up ∈ Wd := wd_of 737 (by decide +kernel) (by decide +kernel)
theorem cp_X9_up : CFp mX9_up 3 := ⟨tw_737, tw_77, by decide, by decide, by decide, by decide +kernel⟩
theorem tw_734 : Cond.methodLink RL 72 yX9_up ∈ Wd := wd_of 734 (by decide +kernel) (by decide +kernel)
theorem tw_735 : Cond.instanceMethod yX9_up ∈ Wd := wd_of 735 (by decide +kernel) (by decide +kernel)
theorem tw_736 : Cond.selects RX9 yX9_up yX9_up ∈ Wd := wd_of 736 (by decide +kernel) (by decide +kernel)
theorem cf_L_72 : CFv RL mX9_up 72 3 := ⟨cp_X9_up, tw_734, tw_735, tw_736⟩
theorem tw_741 : mcode mX4_seek ∈ Wd := wd_of 741 (by decide +kernel) (by decide +kernel)
theorem cp_X4_seek : CFp mX4_seek 4 := ⟨tw_741, tw_83, by decide, by decide, by decide, by decide +kernel⟩
theorem tw_738 : Cond.methodLink RX9 206 yX4_seek ∈ Wd := wd_of 738 (by decide +kernel) (by decide +kernel)
theorem tw_739 : Cond.instanceMethod yX4_seek ∈ Wd := wd_of 739 (by decide +kernel) (by decide +kernel)
theorem tw_740 : Cond.selects RX4 yX4_seek yX4_seek ∈ Wd := wd_of 740 (by decide +kernel) (by decide +kernel)
theorem cf_X9_206 : CFv RX9 mX4_seek 206 4 := ⟨cp_X4_seek, tw_738, tw_739, tw_740⟩
theorem tw_742 : Cond.methodLink RX4 41 yJ9_min_7cf53 ∈ Wd := wd_of 742 (by decide +kernel) (by decide +kernel)
theorem cf_X4_41 : CFs RX4 mJ9_min_7cf53 41 2 := ⟨cp_J9_min_7cf53, tw_742, tw_513⟩
theorem tw_743 : Cond.methodLink RX4 47 yX8_begin ∈ Wd := wd_of 743 (by decide +kernel) (by decide +kernel)
theorem cf_X4_47 : CFv RX4 mX8_begin 47 2 := ⟨cp_X8_begin, tw_743, tw_452, tw_453⟩
theorem tw_744 : Cond.methodLink RX4 51 yX8_reckon ∈ Wd := wd_of 744 (by decide +kernel) (by decide +kernel)
theorem cf_X4_51 : CFv RX4 mX8_reckon 51 3 := ⟨cp_X8_reckon, tw_744, tw_459, tw_460⟩
theorem tw_748 : mcode mX4_follow ∈ Wd := wd_of 748 (by decide +kernel) (by decide +kernel)
theorem cp_X4_follow : CFp mX4_follow 3 := ⟨tw_748, tw_83, by decide, by decide, by decide, by decide +kernel⟩
theorem tw_745 : Cond.methodLink RX4 55 yX4_follow ∈ Wd := wd_of 745 (by decide +kernel) (by decide +kernel)
theorem tw_747 : Cond.instanceMethod yX4_follow ∈ Wd := wd_of 747 (by decide +kernel) (by decide +kernel)
theorem tw_16 : Cond.selects RX4 yX4_follow yX4_follow ∈ Wd := wd_of 16 (by decide +kernel) (by decide +kernel)
theorem cf_X4_55 : CFv RX4 mX4_follow 55 3 := ⟨cp_X4_follow, tw_745, tw_747, tw_16⟩
theorem tw_752 : mcode mX4_keep ∈ Wd := wd_of 752 (by decide +kernel) (by decide +kernel)
theorem cp_X4_keep : CFp mX4_keep 1 := ⟨tw_752, tw_83, by decide, by decide, by decide, by decide +kernel⟩
theorem tw_749 : Cond.methodLink RX4 59 yX4_keep ∈ Wd := wd_of 749 (by decide +kernel) (by decide +kernel)
theorem tw_751 : Cond.instanceMethod yX4_keep ∈ Wd := wd_of 751 (by decide +kernel) (by decide +kernel)
theorem tw_17 : Cond.selects RX4 yX4_keep yX4_keep ∈ Wd := wd_of 17 (by decide +kernel) (by decide +kernel)
theorem cf_X4_59 : CFv RX4 mX4_keep 59 1 := ⟨cp_X4_keep, tw_749, tw_751, tw_17⟩
theorem tw_753 : Cond.methodLink RX4 74 arraycopyName ∈ Wd := wd_of 753 (by decide +kernel) (by decide +kernel)
theorem tw_759 : mcode mX4_wakeNext ∈ Wd := wd_of 759 (by decide +kernel) (by decide +kernel)
theorem cp_X4_wakeNext : CFp mX4_wakeNext 4 := ⟨tw_759, tw_83, by decide, by decide, by decide, by decide +kernel⟩
theorem tw_756 : Cond.methodLink RX4 63 yX4_wakeNext ∈ Wd := wd_of 756 (by decide +kernel) (by decide +kernel)
theorem tw_758 : Cond.instanceMethod yX4_wakeNext ∈ Wd := wd_of 758 (by decide +kernel) (by decide +kernel)
theorem tw_18 : Cond.selects RX4 yX4_wakeNext yX4_wakeNext ∈ Wd := wd_of 18 (by decide +kernel) (by decide +kernel)
theorem cf_X4_63 : CFv RX4 mX4_wakeNext 63 4 := ⟨cp_X4_wakeNext, tw_756, tw_758, tw_18⟩
theorem tw_760 : Cond.methodLink RX4 67 yX8_comesOut ∈ Wd := wd_of 760 (by decide +kernel) (by decide +kernel)
theorem cf_X4_67 : CFv RX4 mX8_comesOut 67 3 := ⟨cp_X8_comesOut, tw_760, tw_501, tw_502⟩
theorem tw_764 : mcode mX4_manAt ∈ Wd := wd_of 764 (by decide +kernel) (by decide +kernel)
theorem cp_X4_manAt : CFp mX4_manAt 1 := ⟨tw_764, tw_83, by decide, by decide, by decide, by decide +kernel⟩
theorem tw_761 : Cond.methodLink RX9 213 yX4_manAt ∈ Wd := wd_of 761 (by decide +kernel) (by decide +kernel)
theorem tw_762 : Cond.instanceMethod yX4_manAt ∈ Wd := wd_of 762 (by decide +kernel) (by decide +kernel)
theorem tw_763 : Cond.selects RX4 yX4_manAt yX4_manAt ∈ Wd := wd_of 763 (by decide +kernel) (by decide +kernel)
theorem cf_X9_213 : CFv RX9 mX4_manAt 213 1 := ⟨cp_X4_manAt, tw_761, tw_762, tw_763⟩
theorem tw_768 : mcode mX9_fair ∈ Wd := wd_of 768 (by decide +kernel) (by decide +kernel)
theorem cp_X9_fair : CFp mX9_fair 3 := ⟨tw_768, tw_77, by decide, by decide, by decide, by decide +kernel⟩
theorem tw_765 : Cond.methodLink RL 77 yX9_fair ∈ Wd := wd_of 765 (by decide +kernel) (by decide +kernel)
theorem tw_766 : Cond.instanceMethod yX9_fair ∈ Wd := wd_of 766 (by decide +kernel) (by decide +kernel)
theorem tw_767 : Cond.selects RX9 yX9_fair yX9_fair ∈ Wd := wd_of 767 (by decide +kernel) (by decide +kernel)
theorem cf_L_77 : CFv RL mX9_fair 77 3 := ⟨cp_X9_fair, tw_765, tw_766, tw_767⟩
theorem tw_772 : mcode mX9_ofFraction ∈ Wd := wd_of 772 (by decide +kernel) (by decide +kernel)
theorem cp_X9_ofFraction : CFp mX9_ofFraction 3 := ⟨tw_772, tw_77, by decide, by decide, by decide, by decide +kernel⟩
theorem tw_770 : Cond.methodLink RX9 218 yX9_ofFraction ∈ Wd := wd_of 770 (by decide +kernel) (by decide +kernel)
theorem tw_771 : Cond.static yX9_ofFraction ∈ Wd := wd_of 771 (by decide +kernel) (by decide +kernel)
theorem cf_X9_218 : CFs RX9 mX9_ofFraction 218 3 := ⟨cp_X9_ofFraction, tw_770, tw_771⟩
theorem tw_775 : mcode mJ9_abs_067f4 ∈ Wd := wd_of 775 (by decide +kernel) (by decide +kernel)
theorem cp_J9_abs_067f4 : CFp mJ9_abs_067f4 1 := ⟨tw_775, tw_88, by decide, by decide, by decide, by decide +kernel⟩
theorem tw_773 : Cond.methodLink RX9 320 yJ9_abs_067f4 ∈ Wd := wd_of 773 (by decide +kernel) (by decide +kernel)
theorem tw_774 : Cond.static yJ9_abs_067f4 ∈ Wd := wd_of 774 (by decide +kernel) (by decide +kernel)
theorem cf_X9_320 : CFs RX9 mJ9_abs_067f4 320 1 := ⟨cp_J9_abs_067f4, tw_773, tw_774⟩
theorem tw_778 : mcode mX9_commonDivisor ∈ Wd := wd_of 778 (by decide +kernel) (by decide +kernel)
theorem cp_X9_commonDivisor : CFp mX9_commonDivisor 2 := ⟨tw_778, tw_77, by decide, by decide, by decide, by decide +kernel⟩
theorem tw_776 : Cond.methodLink RX9 326 yX9_commonDivisor ∈ Wd := wd_of 776 (by decide +kernel) (by decide +kernel)
theorem tw_777 : Cond.static yX9_commonDivisor ∈ Wd := wd_of 777 (by decide +kernel) (by decide +kernel)
theorem cf_X9_326 : CFs RX9 mX9_commonDivisor 326 2 := ⟨cp_X9_commonDivisor, tw_776, tw_777⟩
theorem tw_782 : mcode mX9_chance ∈ Wd := wd_of 782 (by decide +kernel) (by decide +kernel)
theorem cp_X9_chance : CFp mX9_chance 2 := ⟨tw_782, tw_77, by decide, by decide, by decide, by decide +kernel⟩
theorem tw_779 : Cond.methodLink RL 82 yX9_chance ∈ Wd := wd_of 779 (by decide +kernel) (by decide +kernel)
theorem tw_780 : Cond.instanceMethod yX9_chance ∈ Wd := wd_of 780 (by decide +kernel) (by decide +kernel)
theorem tw_781 : Cond.selects RX9 yX9_chance yX9_chance ∈ Wd := wd_of 781 (by decide +kernel) (by decide +kernel)
theorem cf_L_82 : CFv RL mX9_chance 82 2 := ⟨cp_X9_chance, tw_779, tw_780, tw_781⟩
theorem tw_786 : mcode mX9_big ∈ Wd := wd_of 786 (by decide +kernel) (by decide +kernel)
theorem cp_X9_big : CFp mX9_big 4 := ⟨tw_786, tw_77, by decide, by decide, by decide, by decide +kernel⟩
theorem tw_783 : Cond.methodLink RL 87 yX9_big ∈ Wd := wd_of 783 (by decide +kernel) (by decide +kernel)
theorem tw_784 : Cond.instanceMethod yX9_big ∈ Wd := wd_of 784 (by decide +kernel) (by decide +kernel)
theorem tw_785 : Cond.selects RX9 yX9_big yX9_big ∈ Wd := wd_of 785 (by decide +kernel) (by decide +kernel)
theorem cf_L_87 : CFv RL mX9_big 87 4 := ⟨cp_X9_big, tw_783, tw_784, tw_785⟩
theorem tw_790 : mcode mX2_becomes ∈ Wd := wd_of 790 (by decide +kernel) (by decide +kernel)
theorem cp_X2_becomes : CFp mX2_becomes 3 := ⟨tw_790, tw_84, by decide, by decide, by decide, by decide +kernel⟩
theorem tw_787 : Cond.methodLink RX9 222 yX2_becomes ∈ Wd := wd_of 787 (by decide +kernel) (by decide +kernel)
theorem tw_788 : Cond.instanceMethod yX2_becomes ∈ Wd := wd_of 788 (by decide +kernel) (by decide +kernel)
theorem tw_789 : Cond.selects RX2 yX2_becomes yX2_becomes ∈ Wd := wd_of 789 (by decide +kernel) (by decide +kernel)
theorem cf_X9_222 : CFv RX9 mX2_becomes 222 3 := ⟨cp_X2_becomes, tw_787, tw_788, tw_789⟩
theorem tw_793 : mcode mJ7_fill_53178 ∈ Wd := wd_of 793 (by decide +kernel) (by decide +kernel)
theorem tw_94 : Cond.initialized RJ7 ∈ Wd := wd_of 94 (by decide +kernel) (by decide +kernel)
theorem cp_J7_fill_53178 : CFp mJ7_fill_53178 2 := ⟨tw_793, tw_94, by decide, by decide, by decide, by decide +kernel⟩
theorem tw_791 : Cond.methodLink RX2 13 yJ7_fill_53178 ∈ Wd := wd_of 791 (by decide +kernel) (by decide +kernel)
theorem tw_792 : Cond.static yJ7_fill_53178 ∈ Wd := wd_of 792 (by decide +kernel) (by decide +kernel)
theorem cf_X2_13 : CFs RX2 mJ7_fill_53178 13 2 := ⟨cp_J7_fill_53178, tw_791, tw_792⟩
theorem tw_797 : mcode mX2_multiply ∈ Wd := wd_of 797 (by decide +kernel) (by decide +kernel)
theorem cp_X2_multiply : CFp mX2_multiply 1 := ⟨tw_797, tw_84, by decide, by decide, by decide, by decide +kernel⟩
theorem tw_794 : Cond.methodLink RX2 19 yX2_multiply ∈ Wd := wd_of 794 (by decide +kernel) (by decide +kernel)
theorem tw_796 : Cond.instanceMethod yX2_multiply ∈ Wd := wd_of 796 (by decide +kernel) (by decide +kernel)
theorem tw_19 : Cond.selects RX2 yX2_multiply yX2_multiply ∈ Wd := wd_of 19 (by decide +kernel) (by decide +kernel)
theorem cf_X2_19 : CFv RX2 mX2_multiply 19 1 := ⟨cp_X2_multiply, tw_794, tw_796, tw_19⟩
theorem tw_801 : mcode mX2_subtract ∈ Wd := wd_of 801 (by decide +kernel) (by decide +kernel)
theorem cp_X2_subtract : CFp mX2_subtract 1 := ⟨tw_801, tw_84, by decide, by decide, by decide, by decide +kernel⟩
theorem tw_798 : Cond.methodLink RX2 23 yX2_subtract ∈ Wd := wd_of 798 (by decide +kernel) (by decide +kernel)
theorem tw_800 : Cond.instanceMethod yX2_subtract ∈ Wd := wd_of 800 (by decide +kernel) (by decide +kernel)
theorem tw_20 : Cond.selects RX2 yX2_subtract yX2_subtract ∈ Wd := wd_of 20 (by decide +kernel) (by decide +kernel)
theorem cf_X2_23 : CFv RX2 mX2_subtract 23 1 := ⟨cp_X2_subtract, tw_798, tw_800, tw_20⟩
theorem tw_804 : mcode mJ9_floorMod_7cf53 ∈ Wd := wd_of 804 (by decide +kernel) (by decide +kernel)
theorem cp_J9_floorMod_7cf53 : CFp mJ9_floorMod_7cf53 2 := ⟨tw_804, tw_88, by decide, by decide, by decide, by decide +kernel⟩
theorem tw_802 : Cond.methodLink RX2 26 yJ9_floorMod_7cf53 ∈ Wd := wd_of 802 (by decide +kernel) (by decide +kernel)
theorem tw_803 : Cond.static yJ9_floorMod_7cf53 ∈ Wd := wd_of 803 (by decide +kernel) (by decide +kernel)
theorem cf_X2_26 : CFs RX2 mJ9_floorMod_7cf53 26 2 := ⟨cp_J9_floorMod_7cf53, tw_802, tw_803⟩
theorem tw_807 : mcode mJ9_floorDiv_7cf53 ∈ Wd := wd_of 807 (by decide +kernel) (by decide +kernel)
theorem cp_J9_floorDiv_7cf53 : CFp mJ9_floorDiv_7cf53 2 := ⟨tw_807, tw_88, by decide, by decide, by decide, by decide +kernel⟩
theorem tw_805 : Cond.methodLink RX2 32 yJ9_floorDiv_7cf53 ∈ Wd := wd_of 805 (by decide +kernel) (by decide +kernel)
theorem tw_806 : Cond.static yJ9_floorDiv_7cf53 ∈ Wd := wd_of 806 (by decide +kernel) (by decide +kernel)
theorem cf_X2_32 : CFs RX2 mJ9_floorDiv_7cf53 32 2 := ⟨cp_J9_floorDiv_7cf53, tw_805, tw_806⟩
theorem tw_811 : mcode mX2_restBy ∈ Wd := wd_of 811 (by decide +kernel) (by decide +kernel)
theorem cp_X2_restBy : CFp mX2_restBy 1 := ⟨tw_811, tw_84, by decide, by decide, by decide, by decide +kernel⟩
theorem tw_808 : Cond.methodLink RX9 226 yX2_restBy ∈ Wd := wd_of 808 (by decide +kernel) (by decide +kernel)
theorem tw_809 : Cond.instanceMethod yX2_restBy ∈ Wd := wd_of 809 (by decide +kernel) (by decide +kernel)
theorem tw_810 : Cond.selects RX2 yX2_restBy yX2_restBy ∈ Wd := wd_of 810 (by decide +kernel) (by decide +kernel)
theorem cf_X9_226 : CFv RX9 mX2_restBy 226 1 := ⟨cp_X2_restBy, tw_808, tw_809, tw_810⟩
theorem tw_815 : mcode mX2_size ∈ Wd := wd_of 815 (by decide +kernel) (by decide +kernel)
theorem cp_X2_size : CFp mX2_size 0 := ⟨tw_815, tw_84, by decide, by decide, by decide, by decide +kernel⟩
theorem tw_812 : Cond.methodLink RX9 229 yX2_size ∈ Wd := wd_of 812 (by decide +kernel) (by decide +kernel)
theorem tw_813 : Cond.instanceMethod yX2_size ∈ Wd := wd_of 813 (by decide +kernel) (by decide +kernel)
theorem tw_814 : Cond.selects RX2 yX2_size yX2_size ∈ Wd := wd_of 814 (by decide +kernel) (by decide +kernel)
theorem cf_X9_229 : CFv RX9 mX2_size 229 0 := ⟨cp_X2_size, tw_812, tw_813, tw_814⟩
theorem tw_819 : mcode mX2_digit ∈ Wd := wd_of 819 (by decide +kernel) (by decide +kernel)
theorem cp_X2_digit : CFp mX2_digit 1 := ⟨tw_819, tw_84, by decide, by decide, by decide, by decide +kernel⟩
theorem tw_816 : Cond.methodLink RX9 230 yX2_digit ∈ Wd := wd_of 816 (by decide +kernel) (by decide +kernel)
theorem tw_817 : Cond.instanceMethod yX2_digit ∈ Wd := wd_of 817 (by decide +kernel) (by decide +kernel)
theorem tw_818 : Cond.selects RX2 yX2_digit yX2_digit ∈ Wd := wd_of 818 (by decide +kernel) (by decide +kernel)
theorem cf_X9_230 : CFv RX9 mX2_digit 230 1 := ⟨cp_X2_digit, tw_816, tw_817, tw_818⟩
theorem tw_823 : mcode mX9_book ∈ Wd := wd_of 823 (by decide +kernel) (by decide +kernel)
theorem cp_X9_book : CFp mX9_book 1 := ⟨tw_823, tw_77, by decide, by decide, by decide, by decide +kernel⟩
theorem tw_820 : Cond.methodLink RL 92 yX9_book ∈ Wd := wd_of 820 (by decide +kernel) (by decide +kernel)
theorem tw_821 : Cond.instanceMethod yX9_book ∈ Wd := wd_of 821 (by decide +kernel) (by decide +kernel)
theorem tw_822 : Cond.selects RX9 yX9_book yX9_book ∈ Wd := wd_of 822 (by decide +kernel) (by decide +kernel)
theorem cf_L_92 : CFv RL mX9_book 92 1 := ⟨cp_X9_book, tw_820, tw_821, tw_822⟩
theorem tw_827 : mcode mX9_looked ∈ Wd := wd_of 827 (by decide +kernel) (by decide +kernel)
theorem cp_X9_looked : CFp mX9_looked 0 := ⟨tw_827, tw_77, by decide, by decide, by decide, by decide +kernel⟩
theorem tw_824 : Cond.methodLink RL 96 yX9_looked ∈ Wd := wd_of 824 (by decide +kernel) (by decide +kernel)
theorem tw_825 : Cond.instanceMethod yX9_looked ∈ Wd := wd_of 825 (by decide +kernel) (by decide +kernel)
theorem tw_826 : Cond.selects RX9 yX9_looked yX9_looked ∈ Wd := wd_of 826 (by decide +kernel) (by decide +kernel)
theorem cf_L_96 : CFv RL mX9_looked 96 0 := ⟨cp_X9_looked, tw_824, tw_825, tw_826⟩
theorem tw_831 : mcode mX3_firstOtherThan ∈ Wd := wd_of 831 (by decide +kernel) (by decide +kernel)
theorem cp_X3_firstOtherThan : CFp mX3_firstOtherThan 2 := ⟨tw_831, tw_82, by decide, by decide, by decide, by decide +kernel⟩
theorem tw_828 : Cond.methodLink RX9 239 yX3_firstOtherThan ∈ Wd := wd_of 828 (by decide +kernel) (by decide +kernel)
theorem tw_829 : Cond.instanceMethod yX3_firstOtherThan ∈ Wd := wd_of 829 (by decide +kernel) (by decide +kernel)
theorem tw_830 : Cond.selects RX3 yX3_firstOtherThan yX3_firstOtherThan ∈ Wd := wd_of 830 (by decide +kernel) (by decide +kernel)
theorem cf_X9_239 : CFv RX9 mX3_firstOtherThan 239 2 := ⟨cp_X3_firstOtherThan, tw_828, tw_829, tw_830⟩
theorem tw_835 : mcode mX9_judge ∈ Wd := wd_of 835 (by decide +kernel) (by decide +kernel)
theorem cp_X9_judge : CFp mX9_judge 2 := ⟨tw_835, tw_77, by decide, by decide, by decide, by decide +kernel⟩
theorem tw_832 : Cond.methodLink RL 100 yX9_judge ∈ Wd := wd_of 832 (by decide +kernel) (by decide +kernel)
theorem tw_833 : Cond.instanceMethod yX9_judge ∈ Wd := wd_of 833 (by decide +kernel) (by decide +kernel)
theorem tw_834 : Cond.selects RX9 yX9_judge yX9_judge ∈ Wd := wd_of 834 (by decide +kernel) (by decide +kernel)
theorem cf_L_100 : CFv RL mX9_judge 100 2 := ⟨cp_X9_judge, tw_832, tw_833, tw_834⟩
theorem tw_839 : mcode mX9_tapeAt ∈ Wd := wd_of 839 (by decide +kernel) (by decide +kernel)
theorem cp_X9_tapeAt : CFp mX9_tapeAt 1 := ⟨tw_839, tw_77, by decide, by decide, by decide, by decide +kernel⟩
theorem tw_836 : Cond.methodLink RX9 243 yX9_tapeAt ∈ Wd := wd_of 836 (by decide +kernel) (by decide +kernel)
theorem tw_838 : Cond.instanceMethod yX9_tapeAt ∈ Wd := wd_of 838 (by decide +kernel) (by decide +kernel)
theorem tw_21 : Cond.selects RX9 yX9_tapeAt yX9_tapeAt ∈ Wd := wd_of 21 (by decide +kernel) (by decide +kernel)
theorem cf_X9_243 : CFv RX9 mX9_tapeAt 243 1 := ⟨cp_X9_tapeAt, tw_836, tw_838, tw_21⟩
theorem tw_843 : mcode mX5_holdsSomething ∈ Wd := wd_of 843 (by decide +kernel) (by decide +kernel)
theorem cp_X5_holdsSomething : CFp mX5_holdsSomething 0 := ⟨tw_843, tw_86, by decide, by decide, by decide, by decide +kernel⟩
theorem tw_840 : Cond.methodLink RX9 247 yX5_holdsSomething ∈ Wd := wd_of 840 (by decide +kernel) (by decide +kernel)
theorem tw_841 : Cond.instanceMethod yX5_holdsSomething ∈ Wd := wd_of 841 (by decide +kernel) (by decide +kernel)
theorem tw_842 : Cond.selects RX5 yX5_holdsSomething yX5_holdsSomething ∈ Wd := wd_of 842 (by decide +kernel) (by decide +kernel)
theorem cf_X9_247 : CFv RX9 mX5_holdsSomething 247 0 := ⟨cp_X5_holdsSomething, tw_840, tw_841, tw_842⟩
theorem tw_847 : mcode mX5_has ∈ Wd := wd_of 847 (by decide +kernel) (by decide +kernel)
theorem cp_X5_has : CFp mX5_has 1 := ⟨tw_847, tw_86, by decide, by decide, by decide, by decide +kernel⟩
theorem tw_844 : Cond.methodLink RX9 254 yX5_has ∈ Wd := wd_of 844 (by decide +kernel) (by decide +kernel)
theorem tw_845 : Cond.instanceMethod yX5_has ∈ Wd := wd_of 845 (by decide +kernel) (by decide +kernel)
theorem tw_846 : Cond.selects RX5 yX5_has yX5_has ∈ Wd := wd_of 846 (by decide +kernel) (by decide +kernel)
theorem cf_X9_254 : CFv RX9 mX5_has 254 1 := ⟨cp_X5_has, tw_844, tw_845, tw_846⟩
theorem tw_852 : mcode mX5_at ∈ Wd := wd_of 852 (by decide +kernel) (by decide +kernel)
theorem cp_X5_at : CFp mX5_at 1 := ⟨tw_852, tw_86, by decide, by decide, by decide, by decide +kernel⟩
theorem tw_849 : Cond.methodLink RX9 258 yX5_at ∈ Wd := wd_of 849 (by decide +kernel) (by decide +kernel)
theorem tw_850 : Cond.instanceMethod yX5_at ∈ Wd := wd_of 850 (by decide +kernel) (by decide +kernel)
theorem tw_851 : Cond.selects RX5 yX5_at yX5_at ∈ Wd := wd_of 851 (by decide +kernel) (by decide +kernel)
theorem cf_X9_258 : CFv RX9 mX5_at 258 1 := ⟨cp_X5_at, tw_849, tw_850, tw_851⟩
theorem tw_853 : Cond.methodLink RX5 30 yX5_has ∈ Wd := wd_of 853 (by decide +kernel) (by decide +kernel)
theorem cf_X5_30 : CFv RX5 mX5_has 30 1 := ⟨cp_X5_has, tw_853, tw_845, tw_846⟩
theorem tw_857 : mcode mX9_image ∈ Wd := wd_of 857 (by decide +kernel) (by decide +kernel)
theorem cp_X9_image : CFp mX9_image 0 := ⟨tw_857, tw_77, by decide, by decide, by decide, by decide +kernel⟩
theorem tw_854 : Cond.methodLink RL 104 yX9_image ∈ Wd := wd_of 854 (by decide +kernel) (by decide +kernel)
theorem tw_855 : Cond.instanceMethod yX9_image ∈ Wd := wd_of 855 (by decide +kernel) (by decide +kernel)
theorem tw_856 : Cond.selects RX9 yX9_image yX9_image ∈ Wd := wd_of 856 (by decide +kernel) (by decide +kernel)
theorem cf_L_104 : CFv RL mX9_image 104 0 := ⟨cp_X9_image, tw_854, tw_855, tw_856⟩
theorem tw_861 : mcode mX1_becomes ∈ Wd := wd_of 861 (by decide +kernel) (by decide +kernel)
theorem cp_X1_becomes : CFp mX1_becomes 1 := ⟨tw_861, tw_78, by decide, by decide, by decide, by decide +kernel⟩
theorem tw_858 : Cond.methodLink RX9 262 yX1_becomes ∈ Wd := wd_of 858 (by decide +kernel) (by decide +kernel)
theorem tw_859 : Cond.instanceMethod yX1_becomes ∈ Wd := wd_of 859 (by decide +kernel) (by decide +kernel)
theorem tw_860 : Cond.selects RX1 yX1_becomes yX1_becomes ∈ Wd := wd_of 860 (by decide +kernel) (by decide +kernel)
theorem cf_X9_262 : CFv RX9 mX1_becomes 262 1 := ⟨cp_X1_becomes, tw_858, tw_859, tw_860⟩
theorem tw_862 : Cond.methodLink RX1 49 arraycopyName ∈ Wd := wd_of 862 (by decide +kernel) (by decide +kernel)
theorem tw_866 : mcode mX9_undo ∈ Wd := wd_of 866 (by decide +kernel) (by decide +kernel)
theorem cp_X9_undo : CFp mX9_undo 0 := ⟨tw_866, tw_77, by decide, by decide, by decide, by decide +kernel⟩
theorem tw_863 : Cond.methodLink RL 108 yX9_undo ∈ Wd := wd_of 863 (by decide +kernel) (by decide +kernel)
theorem tw_864 : Cond.instanceMethod yX9_undo ∈ Wd := wd_of 864 (by decide +kernel) (by decide +kernel)
theorem tw_865 : Cond.selects RX9 yX9_undo yX9_undo ∈ Wd := wd_of 865 (by decide +kernel) (by decide +kernel)
theorem cf_L_108 : CFv RL mX9_undo 108 0 := ⟨cp_X9_undo, tw_863, tw_864, tw_865⟩
theorem tw_870 : mcode mX9_act ∈ Wd := wd_of 870 (by decide +kernel) (by decide +kernel)
theorem cp_X9_act : CFp mX9_act 3 := ⟨tw_870, tw_77, by decide, by decide, by decide, by decide +kernel⟩
theorem tw_867 : Cond.methodLink RL 112 yX9_act ∈ Wd := wd_of 867 (by decide +kernel) (by decide +kernel)
theorem tw_868 : Cond.instanceMethod yX9_act ∈ Wd := wd_of 868 (by decide +kernel) (by decide +kernel)
theorem tw_869 : Cond.selects RX9 yX9_act yX9_act ∈ Wd := wd_of 869 (by decide +kernel) (by decide +kernel)
theorem cf_L_112 : CFv RL mX9_act 112 3 := ⟨cp_X9_act, tw_867, tw_868, tw_869⟩
theorem tw_874 : mcode mX0_forget ∈ Wd := wd_of 874 (by decide +kernel) (by decide +kernel)
theorem cp_X0_forget : CFp mX0_forget 0 := ⟨tw_874, tw_85, by decide, by decide, by decide, by decide +kernel⟩
theorem tw_871 : Cond.methodLink RX9 265 yX0_forget ∈ Wd := wd_of 871 (by decide +kernel) (by decide +kernel)
theorem tw_872 : Cond.instanceMethod yX0_forget ∈ Wd := wd_of 872 (by decide +kernel) (by decide +kernel)
theorem tw_873 : Cond.selects RX0 yX0_forget yX0_forget ∈ Wd := wd_of 873 (by decide +kernel) (by decide +kernel)
theorem cf_X9_265 : CFv RX9 mX0_forget 265 0 := ⟨cp_X0_forget, tw_871, tw_872, tw_873⟩
theorem tw_878 : mcode mX0_actsFor ∈ Wd := wd_of 878 (by decide +kernel) (by decide +kernel)
theorem cp_X0_actsFor : CFp mX0_actsFor 5 := ⟨tw_878, tw_85, by decide, by decide, by decide, by decide +kernel⟩
theorem tw_875 : Cond.methodLink RX9 268 yX0_actsFor ∈ Wd := wd_of 875 (by decide +kernel) (by decide +kernel)
theorem tw_876 : Cond.instanceMethod yX0_actsFor ∈ Wd := wd_of 876 (by decide +kernel) (by decide +kernel)
theorem tw_877 : Cond.selects RX0 yX0_actsFor yX0_actsFor ∈ Wd := wd_of 877 (by decide +kernel) (by decide +kernel)
theorem cf_X9_268 : CFv RX9 mX0_actsFor 268 5 := ⟨cp_X0_actsFor, tw_875, tw_876, tw_877⟩
theorem tw_882 : mcode mX0_does ∈ Wd := wd_of 882 (by decide +kernel) (by decide +kernel)
theorem cp_X0_does : CFp mX0_does 4 := ⟨tw_882, tw_85, by decide, by decide, by decide, by decide +kernel⟩
theorem tw_879 : Cond.methodLink RX0 28 yX0_does ∈ Wd := wd_of 879 (by decide +kernel) (by decide +kernel)
theorem tw_881 : Cond.instanceMethod yX0_does ∈ Wd := wd_of 881 (by decide +kernel) (by decide +kernel)
theorem tw_22 : Cond.selects RX0 yX0_does yX0_does ∈ Wd := wd_of 22 (by decide +kernel) (by decide +kernel)
theorem cf_X0_28 : CFv RX0 mX0_does 28 4 := ⟨cp_X0_does, tw_879, tw_881, tw_22⟩
theorem tw_885 : mcode mX0_number ∈ Wd := wd_of 885 (by decide +kernel) (by decide +kernel)
theorem cp_X0_number : CFp mX0_number 2 := ⟨tw_885, tw_85, by decide, by decide, by decide, by decide +kernel⟩
theorem tw_883 : Cond.methodLink RX0 36 yX0_number ∈ Wd := wd_of 883 (by decide +kernel) (by decide +kernel)
theorem tw_884 : Cond.static yX0_number ∈ Wd := wd_of 884 (by decide +kernel) (by decide +kernel)
theorem cf_X0_36 : CFs RX0 mX0_number 36 2 := ⟨cp_X0_number, tw_883, tw_884⟩
theorem tw_890 : mcode mX9_aboveOf ∈ Wd := wd_of 890 (by decide +kernel) (by decide +kernel)
theorem cp_X9_aboveOf : CFp mX9_aboveOf 1 := ⟨tw_890, tw_77, by decide, by decide, by decide, by decide +kernel⟩
theorem tw_889 : Cond.static yX9_aboveOf ∈ Wd := wd_of 889 (by decide +kernel) (by decide +kernel)
theorem cf_X0_40 : CFsN RX0 mX9_aboveOf 40 1 := ⟨cp_X9_aboveOf, List.mem_of_getElem? (i := 11) rfl, tw_889⟩
theorem tw_896 : mcode mX0_begins ∈ Wd := wd_of 896 (by decide +kernel) (by decide +kernel)
theorem cp_X0_begins : CFp mX0_begins 1 := ⟨tw_896, tw_85, by decide, by decide, by decide, by decide +kernel⟩
theorem tw_893 : Cond.methodLink RX0 44 yX0_begins ∈ Wd := wd_of 893 (by decide +kernel) (by decide +kernel)
theorem tw_895 : Cond.instanceMethod yX0_begins ∈ Wd := wd_of 895 (by decide +kernel) (by decide +kernel)
theorem tw_23 : Cond.selects RX0 yX0_begins yX0_begins ∈ Wd := wd_of 23 (by decide +kernel) (by decide +kernel)
theorem cf_X0_44 : CFv RX0 mX0_begins 44 1 := ⟨cp_X0_begins, tw_893, tw_895, tw_23⟩
theorem tw_900 : mcode mX0_runs ∈ Wd := wd_of 900 (by decide +kernel) (by decide +kernel)
theorem cp_X0_runs : CFp mX0_runs 4 := ⟨tw_900, tw_85, by decide, by decide, by decide, by decide +kernel⟩
theorem tw_897 : Cond.methodLink RX0 48 yX0_runs ∈ Wd := wd_of 897 (by decide +kernel) (by decide +kernel)
theorem tw_899 : Cond.instanceMethod yX0_runs ∈ Wd := wd_of 899 (by decide +kernel) (by decide +kernel)
theorem tw_24 : Cond.selects RX0 yX0_runs yX0_runs ∈ Wd := wd_of 24 (by decide +kernel) (by decide +kernel)
theorem cf_X0_48 : CFv RX0 mX0_runs 48 4 := ⟨cp_X0_runs, tw_897, tw_899, tw_24⟩
theorem tw_904 : mcode mX9_trace ∈ Wd := wd_of 904 (by decide +kernel) (by decide +kernel)
theorem cp_X9_trace : CFp mX9_trace 1 := ⟨tw_904, tw_77, by decide, by decide, by decide, by decide +kernel⟩
theorem tw_901 : Cond.methodLink RL 116 yX9_trace ∈ Wd := wd_of 901 (by decide +kernel) (by decide +kernel)
theorem tw_902 : Cond.instanceMethod yX9_trace ∈ Wd := wd_of 902 (by decide +kernel) (by decide +kernel)
theorem tw_903 : Cond.selects RX9 yX9_trace yX9_trace ∈ Wd := wd_of 903 (by decide +kernel) (by decide +kernel)
theorem cf_L_116 : CFv RL mX9_trace 116 1 := ⟨cp_X9_trace, tw_901, tw_902, tw_903⟩
theorem tw_908 : mcode mX0_hasKept ∈ Wd := wd_of 908 (by decide +kernel) (by decide +kernel)
theorem cp_X0_hasKept : CFp mX0_hasKept 1 := ⟨tw_908, tw_85, by decide, by decide, by decide, by decide +kernel⟩
theorem tw_905 : Cond.methodLink RX9 272 yX0_hasKept ∈ Wd := wd_of 905 (by decide +kernel) (by decide +kernel)
theorem tw_906 : Cond.instanceMethod yX0_hasKept ∈ Wd := wd_of 906 (by decide +kernel) (by decide +kernel)
theorem tw_907 : Cond.selects RX0 yX0_hasKept yX0_hasKept ∈ Wd := wd_of 907 (by decide +kernel) (by decide +kernel)
theorem cf_X9_272 : CFv RX9 mX0_hasKept 272 1 := ⟨cp_X0_hasKept, tw_905, tw_906, tw_907⟩
theorem tw_912 : mcode mX0_kept ∈ Wd := wd_of 912 (by decide +kernel) (by decide +kernel)
theorem cp_X0_kept : CFp mX0_kept 1 := ⟨tw_912, tw_85, by decide, by decide, by decide, by decide +kernel⟩
theorem tw_909 : Cond.methodLink RX9 275 yX0_kept ∈ Wd := wd_of 909 (by decide +kernel) (by decide +kernel)
theorem tw_910 : Cond.instanceMethod yX0_kept ∈ Wd := wd_of 910 (by decide +kernel) (by decide +kernel)
theorem tw_911 : Cond.selects RX0 yX0_kept yX0_kept ∈ Wd := wd_of 911 (by decide +kernel) (by decide +kernel)
theorem cf_X9_275 : CFv RX9 mX0_kept 275 1 := ⟨cp_X0_kept, tw_909, tw_910, tw_911⟩
theorem tw_913 : Cond.methodLink RX0 32 yX0_hasKept ∈ Wd := wd_of 913 (by decide +kernel) (by decide +kernel)
theorem cf_X0_32 : CFv RX0 mX0_hasKept 32 1 := ⟨cp_X0_hasKept, tw_913, tw_906, tw_907⟩
theorem tw_917 : mcode mX9_taken ∈ Wd := wd_of 917 (by decide +kernel) (by decide +kernel)
theorem cp_X9_taken : CFp mX9_taken 2 := ⟨tw_917, tw_77, by decide, by decide, by decide, by decide +kernel⟩
theorem tw_914 : Cond.methodLink RL 120 yX9_taken ∈ Wd := wd_of 914 (by decide +kernel) (by decide +kernel)
theorem tw_915 : Cond.instanceMethod yX9_taken ∈ Wd := wd_of 915 (by decide +kernel) (by decide +kernel)
theorem tw_916 : Cond.selects RX9 yX9_taken yX9_taken ∈ Wd := wd_of 916 (by decide +kernel) (by decide +kernel)
theorem cf_L_120 : CFv RL mX9_taken 120 2 := ⟨cp_X9_taken, tw_914, tw_915, tw_916⟩
theorem tw_920 : mcode mX9_isUnder ∈ Wd := wd_of 920 (by decide +kernel) (by decide +kernel)
theorem cp_X9_isUnder : CFp mX9_isUnder 2 := ⟨tw_920, tw_77, by decide, by decide, by decide, by decide +kernel⟩
theorem tw_918 : Cond.methodLink RX9 278 yX9_isUnder ∈ Wd := wd_of 918 (by decide +kernel) (by decide +kernel)
theorem tw_919 : Cond.static yX9_isUnder ∈ Wd := wd_of 919 (by decide +kernel) (by decide +kernel)
theorem cf_X9_278 : CFs RX9 mX9_isUnder 278 2 := ⟨cp_X9_isUnder, tw_918, tw_919⟩
theorem tw_921 : Cond.methodLink RX9 305 yX9_aboveOf ∈ Wd := wd_of 921 (by decide +kernel) (by decide +kernel)
theorem cf_X9_305 : CFs RX9 mX9_aboveOf 305 1 := ⟨cp_X9_aboveOf, tw_921, tw_889⟩
theorem tw_925 : mcode mX9_count ∈ Wd := wd_of 925 (by decide +kernel) (by decide +kernel)
theorem cp_X9_count : CFp mX9_count 1 := ⟨tw_925, tw_77, by decide, by decide, by decide, by decide +kernel⟩
theorem tw_922 : Cond.methodLink RL 124 yX9_count ∈ Wd := wd_of 922 (by decide +kernel) (by decide +kernel)
theorem tw_923 : Cond.instanceMethod yX9_count ∈ Wd := wd_of 923 (by decide +kernel) (by decide +kernel)
theorem tw_924 : Cond.selects RX9 yX9_count yX9_count ∈ Wd := wd_of 924 (by decide +kernel) (by decide +kernel)
theorem cf_L_124 : CFv RL mX9_count 124 1 := ⟨cp_X9_count, tw_922, tw_923, tw_924⟩
theorem tw_929 : mcode mX9_tape ∈ Wd := wd_of 929 (by decide +kernel) (by decide +kernel)
theorem cp_X9_tape : CFp mX9_tape 3 := ⟨tw_929, tw_77, by decide, by decide, by decide, by decide +kernel⟩
theorem tw_926 : Cond.methodLink RL 128 yX9_tape ∈ Wd := wd_of 926 (by decide +kernel) (by decide +kernel)
theorem tw_927 : Cond.instanceMethod yX9_tape ∈ Wd := wd_of 927 (by decide +kernel) (by decide +kernel)
theorem tw_928 : Cond.selects RX9 yX9_tape yX9_tape ∈ Wd := wd_of 928 (by decide +kernel) (by decide +kernel)
theorem cf_L_128 : CFv RL mX9_tape 128 3 := ⟨cp_X9_tape, tw_926, tw_927, tw_928⟩
theorem tw_933 : mcode mX5_becomes ∈ Wd := wd_of 933 (by decide +kernel) (by decide +kernel)
theorem cp_X5_becomes : CFp mX5_becomes 2 := ⟨tw_933, tw_86, by decide, by decide, by decide, by decide +kernel⟩
theorem tw_930 : Cond.methodLink RX9 284 yX5_becomes ∈ Wd := wd_of 930 (by decide +kernel) (by decide +kernel)
theorem tw_931 : Cond.instanceMethod yX5_becomes ∈ Wd := wd_of 931 (by decide +kernel) (by decide +kernel)
theorem tw_932 : Cond.selects RX5 yX5_becomes yX5_becomes ∈ Wd := wd_of 932 (by decide +kernel) (by decide +kernel)
theorem cf_X9_284 : CFv RX9 mX5_becomes 284 2 := ⟨cp_X5_becomes, tw_930, tw_931, tw_932⟩
theorem tw_936 : mcode mJ7_fill_d0a16 ∈ Wd := wd_of 936 (by decide +kernel) (by decide +kernel)
theorem cp_J7_fill_d0a16 : CFp mJ7_fill_d0a16 2 := ⟨tw_936, tw_94, by decide, by decide, by decide, by decide +kernel⟩
theorem tw_934 : Cond.methodLink RX5 22 yJ7_fill_d0a16 ∈ Wd := wd_of 934 (by decide +kernel) (by decide +kernel)
theorem tw_935 : Cond.static yJ7_fill_d0a16 ∈ Wd := wd_of 935 (by decide +kernel) (by decide +kernel)
theorem cf_X5_22 : CFs RX5 mJ7_fill_d0a16 22 2 := ⟨cp_J7_fill_d0a16, tw_934, tw_935⟩
theorem tw_940 : mcode mX9_item ∈ Wd := wd_of 940 (by decide +kernel) (by decide +kernel)
theorem cp_X9_item : CFp mX9_item 3 := ⟨tw_940, tw_77, by decide, by decide, by decide, by decide +kernel⟩
theorem tw_937 : Cond.methodLink RL 134 yX9_item ∈ Wd := wd_of 937 (by decide +kernel) (by decide +kernel)
theorem tw_938 : Cond.instanceMethod yX9_item ∈ Wd := wd_of 938 (by decide +kernel) (by decide +kernel)
theorem tw_939 : Cond.selects RX9 yX9_item yX9_item ∈ Wd := wd_of 939 (by decide +kernel) (by decide +kernel)
theorem cf_L_134 : CFv RL mX9_item 134 3 := ⟨cp_X9_item, tw_937, tw_938, tw_939⟩
theorem tw_944 : mcode mX5_put ∈ Wd := wd_of 944 (by decide +kernel) (by decide +kernel)
theorem cp_X5_put : CFp mX5_put 2 := ⟨tw_944, tw_86, by decide, by decide, by decide, by decide +kernel⟩
theorem tw_941 : Cond.methodLink RX9 287 yX5_put ∈ Wd := wd_of 941 (by decide +kernel) (by decide +kernel)
theorem tw_942 : Cond.instanceMethod yX5_put ∈ Wd := wd_of 942 (by decide +kernel) (by decide +kernel)
theorem tw_943 : Cond.selects RX5 yX5_put yX5_put ∈ Wd := wd_of 943 (by decide +kernel) (by decide +kernel)
theorem cf_X9_287 : CFv RX9 mX5_put 287 2 := ⟨cp_X5_put, tw_941, tw_942, tw_943⟩
theorem tw_948 : mcode mX5_cut ∈ Wd := wd_of 948 (by decide +kernel) (by decide +kernel)
theorem cp_X5_cut : CFp mX5_cut 1 := ⟨tw_948, tw_86, by decide, by decide, by decide, by decide +kernel⟩
theorem tw_945 : Cond.methodLink RX5 34 yX5_cut ∈ Wd := wd_of 945 (by decide +kernel) (by decide +kernel)
theorem tw_947 : Cond.instanceMethod yX5_cut ∈ Wd := wd_of 947 (by decide +kernel) (by decide +kernel)
theorem tw_25 : Cond.selects RX5 yX5_cut yX5_cut ∈ Wd := wd_of 25 (by decide +kernel) (by decide +kernel)
theorem cf_X5_34 : CFv RX5 mX5_cut 34 1 := ⟨cp_X5_cut, tw_945, tw_947, tw_25⟩
theorem tw_952 : mcode mX9_read ∈ Wd := wd_of 952 (by decide +kernel) (by decide +kernel)
theorem cp_X9_read : CFp mX9_read 2 := ⟨tw_952, tw_77, by decide, by decide, by decide, by decide +kernel⟩
theorem tw_949 : Cond.methodLink RL 139 yX9_read ∈ Wd := wd_of 949 (by decide +kernel) (by decide +kernel)
theorem tw_950 : Cond.instanceMethod yX9_read ∈ Wd := wd_of 950 (by decide +kernel) (by decide +kernel)
theorem tw_951 : Cond.selects RX9 yX9_read yX9_read ∈ Wd := wd_of 951 (by decide +kernel) (by decide +kernel)
theorem cf_L_139 : CFv RL mX9_read 139 2 := ⟨cp_X9_read, tw_949, tw_950, tw_951⟩
theorem tw_956 : mcode mX9_shift ∈ Wd := wd_of 956 (by decide +kernel) (by decide +kernel)
theorem cp_X9_shift : CFp mX9_shift 5 := ⟨tw_956, tw_77, by decide, by decide, by decide, by decide +kernel⟩
theorem tw_953 : Cond.methodLink RL 143 yX9_shift ∈ Wd := wd_of 953 (by decide +kernel) (by decide +kernel)
theorem tw_954 : Cond.instanceMethod yX9_shift ∈ Wd := wd_of 954 (by decide +kernel) (by decide +kernel)
theorem tw_955 : Cond.selects RX9 yX9_shift yX9_shift ∈ Wd := wd_of 955 (by decide +kernel) (by decide +kernel)
theorem cf_L_143 : CFv RL mX9_shift 143 5 := ⟨cp_X9_shift, tw_953, tw_954, tw_955⟩
theorem tw_960 : mcode mX5_hasStretch ∈ Wd := wd_of 960 (by decide +kernel) (by decide +kernel)
theorem cp_X5_hasStretch : CFp mX5_hasStretch 2 := ⟨tw_960, tw_86, by decide, by decide, by decide, by decide +kernel⟩
theorem tw_957 : Cond.methodLink RX9 291 yX5_hasStretch ∈ Wd := wd_of 957 (by decide +kernel) (by decide +kernel)
theorem tw_958 : Cond.instanceMethod yX5_hasStretch ∈ Wd := wd_of 958 (by decide +kernel) (by decide +kernel)
theorem tw_959 : Cond.selects RX5 yX5_hasStretch yX5_hasStretch ∈ Wd := wd_of 959 (by decide +kernel) (by decide +kernel)
theorem cf_X9_291 : CFv RX9 mX5_hasStretch 291 2 := ⟨cp_X5_hasStretch, tw_957, tw_958, tw_959⟩
theorem tw_961 : Cond.methodLink RX9 298 arraycopyName ∈ Wd := wd_of 961 (by decide +kernel) (by decide +kernel)
theorem tw_966 : mcode mX10_init ∈ Wd := wd_of 966 (by decide +kernel) (by decide +kernel)
theorem tw_87 : Cond.initialized RX10 ∈ Wd := wd_of 87 (by decide +kernel) (by decide +kernel)
theorem cp_X10_init : CFp mX10_init 0 := ⟨tw_966, tw_87, by decide, by decide, by decide, by decide +kernel⟩
theorem tw_964 : Cond.methodLink RL 12 yX10_init ∈ Wd := wd_of 964 (by decide +kernel) (by decide +kernel)
theorem tw_965 : Cond.instanceMethod yX10_init ∈ Wd := wd_of 965 (by decide +kernel) (by decide +kernel)
theorem cf_L_12 : CFi RL mX10_init 12 0 := ⟨cp_X10_init, tw_964, tw_965, rfl, rfl⟩
theorem tw_967 : Cond.methodLink RX10 1 objectInit ∈ Wd := wd_of 967 (by decide +kernel) (by decide +kernel)
theorem tw_1137 : mcode mX10_man ∈ Wd := wd_of 1137 (by decide +kernel) (by decide +kernel)
theorem cp_X10_man : CFp mX10_man 2 := ⟨tw_1137, tw_87, by decide, by decide, by decide, by decide +kernel⟩
theorem tw_1134 : Cond.methodLink RL 17 yX10_man ∈ Wd := wd_of 1134 (by decide +kernel) (by decide +kernel)
theorem tw_1135 : Cond.instanceMethod yX10_man ∈ Wd := wd_of 1135 (by decide +kernel) (by decide +kernel)
theorem tw_1136 : Cond.selects RX10 yX10_man yX10_man ∈ Wd := wd_of 1136 (by decide +kernel) (by decide +kernel)
theorem cf_L_17 : CFv RL mX10_man 17 2 := ⟨cp_X10_man, tw_1134, tw_1135, tw_1136⟩
theorem tw_1141 : mcode mX10_in ∈ Wd := wd_of 1141 (by decide +kernel) (by decide +kernel)
theorem cp_X10_in : CFp mX10_in 3 := ⟨tw_1141, tw_87, by decide, by decide, by decide, by decide +kernel⟩
theorem tw_1138 : Cond.methodLink RX10 179 yX10_in ∈ Wd := wd_of 1138 (by decide +kernel) (by decide +kernel)
theorem tw_1140 : Cond.instanceMethod yX10_in ∈ Wd := wd_of 1140 (by decide +kernel) (by decide +kernel)
theorem tw_26 : Cond.selects RX10 yX10_in yX10_in ∈ Wd := wd_of 26 (by decide +kernel) (by decide +kernel)
theorem cf_X10_179 : CFv RX10 mX10_in 179 3 := ⟨cp_X10_in, tw_1138, tw_1140, tw_26⟩
theorem tw_1145 : mcode mX10_heap ∈ Wd := wd_of 1145 (by decide +kernel) (by decide +kernel)
theorem cp_X10_heap : CFp mX10_heap 1 := ⟨tw_1145, tw_87, by decide, by decide, by decide, by decide +kernel⟩
theorem tw_1142 : Cond.methodLink RL 26 yX10_heap ∈ Wd := wd_of 1142 (by decide +kernel) (by decide +kernel)
theorem tw_1143 : Cond.instanceMethod yX10_heap ∈ Wd := wd_of 1143 (by decide +kernel) (by decide +kernel)
theorem tw_1144 : Cond.selects RX10 yX10_heap yX10_heap ∈ Wd := wd_of 1144 (by decide +kernel) (by decide +kernel)
theorem cf_L_26 : CFv RL mX10_heap 26 1 := ⟨cp_X10_heap, tw_1142, tw_1143, tw_1144⟩
theorem tw_1149 : mcode mX10_isHeap ∈ Wd := wd_of 1149 (by decide +kernel) (by decide +kernel)
theorem cp_X10_isHeap : CFp mX10_isHeap 1 := ⟨tw_1149, tw_87, by decide, by decide, by decide, by decide +kernel⟩
theorem tw_1146 : Cond.methodLink RX10 184 yX10_isHeap ∈ Wd := wd_of 1146 (by decide +kernel) (by decide +kernel)
theorem tw_1148 : Cond.instanceMethod yX10_isHeap ∈ Wd := wd_of 1148 (by decide +kernel) (by decide +kernel)
theorem tw_27 : Cond.selects RX10 yX10_isHeap yX10_isHeap ∈ Wd := wd_of 27 (by decide +kernel) (by decide +kernel)
theorem cf_X10_184 : CFv RX10 mX10_isHeap 184 1 := ⟨cp_X10_isHeap, tw_1146, tw_1148, tw_27⟩
theorem tw_1154 : mcode mX10_feed ∈ Wd := wd_of 1154 (by decide +kernel) (by decide +kernel)
theorem cp_X10_feed : CFp mX10_feed 1 := ⟨tw_1154, tw_87, by decide, by decide, by decide, by decide +kernel⟩
theorem tw_1151 : Cond.methodLink RL 30 yX10_feed ∈ Wd := wd_of 1151 (by decide +kernel) (by decide +kernel)
theorem tw_1152 : Cond.instanceMethod yX10_feed ∈ Wd := wd_of 1152 (by decide +kernel) (by decide +kernel)
theorem tw_1153 : Cond.selects RX10 yX10_feed yX10_feed ∈ Wd := wd_of 1153 (by decide +kernel) (by decide +kernel)
theorem cf_L_30 : CFv RL mX10_feed 30 1 := ⟨cp_X10_feed, tw_1151, tw_1152, tw_1153⟩
theorem tw_1158 : mcode mX10_village ∈ Wd := wd_of 1158 (by decide +kernel) (by decide +kernel)
theorem cp_X10_village : CFp mX10_village 0 := ⟨tw_1158, tw_87, by decide, by decide, by decide, by decide +kernel⟩
theorem tw_1155 : Cond.methodLink RL 35 yX10_village ∈ Wd := wd_of 1155 (by decide +kernel) (by decide +kernel)
theorem tw_1156 : Cond.instanceMethod yX10_village ∈ Wd := wd_of 1156 (by decide +kernel) (by decide +kernel)
theorem tw_1157 : Cond.selects RX10 yX10_village yX10_village ∈ Wd := wd_of 1157 (by decide +kernel) (by decide +kernel)
theorem cf_L_35 : CFv RL mX10_village 35 0 := ⟨cp_X10_village, tw_1155, tw_1156, tw_1157⟩
theorem tw_1162 : mcode mX10_goesText ∈ Wd := wd_of 1162 (by decide +kernel) (by decide +kernel)
theorem cp_X10_goesText : CFp mX10_goesText 1 := ⟨tw_1162, tw_87, by decide, by decide, by decide, by decide +kernel⟩
theorem tw_1159 : Cond.methodLink RX10 235 yX10_goesText ∈ Wd := wd_of 1159 (by decide +kernel) (by decide +kernel)
theorem tw_1161 : Cond.instanceMethod yX10_goesText ∈ Wd := wd_of 1161 (by decide +kernel) (by decide +kernel)
theorem tw_28 : Cond.selects RX10 yX10_goesText yX10_goesText ∈ Wd := wd_of 28 (by decide +kernel) (by decide +kernel)
theorem cf_X10_235 : CFv RX10 mX10_goesText 235 1 := ⟨cp_X10_goesText, tw_1159, tw_1161, tw_28⟩
theorem tw_1166 : mcode mX10_takesClause ∈ Wd := wd_of 1166 (by decide +kernel) (by decide +kernel)
theorem cp_X10_takesClause : CFp mX10_takesClause 1 := ⟨tw_1166, tw_87, by decide, by decide, by decide, by decide +kernel⟩
theorem tw_1163 : Cond.methodLink RX10 232 yX10_takesClause ∈ Wd := wd_of 1163 (by decide +kernel) (by decide +kernel)
theorem tw_1165 : Cond.instanceMethod yX10_takesClause ∈ Wd := wd_of 1165 (by decide +kernel) (by decide +kernel)
theorem tw_29 : Cond.selects RX10 yX10_takesClause yX10_takesClause ∈ Wd := wd_of 29 (by decide +kernel) (by decide +kernel)
theorem cf_X10_232 : CFv RX10 mX10_takesClause 232 1 := ⟨cp_X10_takesClause, tw_1163, tw_1165, tw_29⟩
theorem tw_1170 : mcode mX10_takesHead ∈ Wd := wd_of 1170 (by decide +kernel) (by decide +kernel)
theorem cp_X10_takesHead : CFp mX10_takesHead 1 := ⟨tw_1170, tw_87, by decide, by decide, by decide, by decide +kernel⟩
theorem tw_1167 : Cond.methodLink RX10 226 yX10_takesHead ∈ Wd := wd_of 1167 (by decide +kernel) (by decide +kernel)
theorem tw_1169 : Cond.instanceMethod yX10_takesHead ∈ Wd := wd_of 1169 (by decide +kernel) (by decide +kernel)
theorem tw_30 : Cond.selects RX10 yX10_takesHead yX10_takesHead ∈ Wd := wd_of 30 (by decide +kernel) (by decide +kernel)
theorem cf_X10_226 : CFv RX10 mX10_takesHead 226 1 := ⟨cp_X10_takesHead, tw_1167, tw_1169, tw_30⟩
theorem tw_1174 : mcode mX10_second ∈ Wd := wd_of 1174 (by decide +kernel) (by decide +kernel)
theorem cp_X10_second : CFp mX10_second 0 := ⟨tw_1174, tw_87, by decide, by decide, by decide, by decide +kernel⟩
theorem tw_1171 : Cond.methodLink RX10 219 yX10_second ∈ Wd := wd_of 1171 (by decide +kernel) (by decide +kernel)
theorem tw_1173 : Cond.instanceMethod yX10_second ∈ Wd := wd_of 1173 (by decide +kernel) (by decide +kernel)
theorem tw_31 : Cond.selects RX10 yX10_second yX10_second ∈ Wd := wd_of 31 (by decide +kernel) (by decide +kernel)
theorem cf_X10_219 : CFv RX10 mX10_second 219 0 := ⟨cp_X10_second, tw_1171, tw_1173, tw_31⟩
theorem tw_1178 : mcode mX10_next ∈ Wd := wd_of 1178 (by decide +kernel) (by decide +kernel)
theorem cp_X10_next : CFp mX10_next 0 := ⟨tw_1178, tw_87, by decide, by decide, by decide, by decide +kernel⟩
theorem tw_1175 : Cond.methodLink RX10 188 yX10_next ∈ Wd := wd_of 1175 (by decide +kernel) (by decide +kernel)
theorem tw_1177 : Cond.instanceMethod yX10_next ∈ Wd := wd_of 1177 (by decide +kernel) (by decide +kernel)
theorem tw_32 : Cond.selects RX10 yX10_next yX10_next ∈ Wd := wd_of 32 (by decide +kernel) (by decide +kernel)
theorem cf_X10_188 : CFv RX10 mX10_next 188 0 := ⟨cp_X10_next, tw_1175, tw_1177, tw_32⟩
theorem tw_1182 : mcode mX10_takesWord ∈ Wd := wd_of 1182 (by decide +kernel) (by decide +kernel)
theorem cp_X10_takesWord : CFp mX10_takesWord 2 := ⟨tw_1182, tw_87, by decide, by decide, by decide, by decide +kernel⟩
theorem tw_1179 : Cond.methodLink RX10 222 yX10_takesWord ∈ Wd := wd_of 1179 (by decide +kernel) (by decide +kernel)
theorem tw_1181 : Cond.instanceMethod yX10_takesWord ∈ Wd := wd_of 1181 (by decide +kernel) (by decide +kernel)
theorem tw_33 : Cond.selects RX10 yX10_takesWord yX10_takesWord ∈ Wd := wd_of 33 (by decide +kernel) (by decide +kernel)
theorem cf_X10_222 : CFv RX10 mX10_takesWord 222 2 := ⟨cp_X10_takesWord, tw_1179, tw_1181, tw_33⟩
theorem tw_1186 : mcode mX10_takes ∈ Wd := wd_of 1186 (by decide +kernel) (by decide +kernel)
theorem cp_X10_takes : CFp mX10_takes 1 := ⟨tw_1186, tw_87, by decide, by decide, by decide, by decide +kernel⟩
theorem tw_1183 : Cond.methodLink RX10 192 yX10_takes ∈ Wd := wd_of 1183 (by decide +kernel) (by decide +kernel)
theorem tw_1185 : Cond.instanceMethod yX10_takes ∈ Wd := wd_of 1185 (by decide +kernel) (by decide +kernel)
theorem tw_34 : Cond.selects RX10 yX10_takes yX10_takes ∈ Wd := wd_of 34 (by decide +kernel) (by decide +kernel)
theorem cf_X10_192 : CFv RX10 mX10_takes 192 1 := ⟨cp_X10_takes, tw_1183, tw_1185, tw_34⟩
theorem tw_1190 : mcode mX10_takesNumber ∈ Wd := wd_of 1190 (by decide +kernel) (by decide +kernel)
theorem cp_X10_takesNumber : CFp mX10_takesNumber 0 := ⟨tw_1190, tw_87, by decide, by decide, by decide, by decide +kernel⟩
theorem tw_1187 : Cond.methodLink RX10 207 yX10_takesNumber ∈ Wd := wd_of 1187 (by decide +kernel) (by decide +kernel)
theorem tw_1189 : Cond.instanceMethod yX10_takesNumber ∈ Wd := wd_of 1189 (by decide +kernel) (by decide +kernel)
theorem tw_35 : Cond.selects RX10 yX10_takesNumber yX10_takesNumber ∈ Wd := wd_of 35 (by decide +kernel) (by decide +kernel)
theorem cf_X10_207 : CFv RX10 mX10_takesNumber 207 0 := ⟨cp_X10_takesNumber, tw_1187, tw_1189, tw_35⟩
theorem tw_1194 : mcode mX10_isDigit ∈ Wd := wd_of 1194 (by decide +kernel) (by decide +kernel)
theorem cp_X10_isDigit : CFp mX10_isDigit 0 := ⟨tw_1194, tw_87, by decide, by decide, by decide, by decide +kernel⟩
theorem tw_1191 : Cond.methodLink RX10 195 yX10_isDigit ∈ Wd := wd_of 1191 (by decide +kernel) (by decide +kernel)
theorem tw_1193 : Cond.instanceMethod yX10_isDigit ∈ Wd := wd_of 1193 (by decide +kernel) (by decide +kernel)
theorem tw_36 : Cond.selects RX10 yX10_isDigit yX10_isDigit ∈ Wd := wd_of 36 (by decide +kernel) (by decide +kernel)
theorem cf_X10_195 : CFv RX10 mX10_isDigit 195 0 := ⟨cp_X10_isDigit, tw_1191, tw_1193, tw_36⟩
theorem tw_1198 : mcode mX10_takesE ∈ Wd := wd_of 1198 (by decide +kernel) (by decide +kernel)
theorem cp_X10_takesE : CFp mX10_takesE 1 := ⟨tw_1198, tw_87, by decide, by decide, by decide, by decide +kernel⟩
theorem tw_1195 : Cond.methodLink RX10 229 yX10_takesE ∈ Wd := wd_of 1195 (by decide +kernel) (by decide +kernel)
theorem tw_1197 : Cond.instanceMethod yX10_takesE ∈ Wd := wd_of 1197 (by decide +kernel) (by decide +kernel)
theorem tw_37 : Cond.selects RX10 yX10_takesE yX10_takesE ∈ Wd := wd_of 37 (by decide +kernel) (by decide +kernel)
theorem cf_X10_229 : CFv RX10 mX10_takesE 229 1 := ⟨cp_X10_takesE, tw_1195, tw_1197, tw_37⟩
theorem tw_1202 : mcode mX10_takesTest ∈ Wd := wd_of 1202 (by decide +kernel) (by decide +kernel)
theorem cp_X10_takesTest : CFp mX10_takesTest 0 := ⟨tw_1202, tw_87, by decide, by decide, by decide, by decide +kernel⟩
theorem tw_1199 : Cond.methodLink RX10 213 yX10_takesTest ∈ Wd := wd_of 1199 (by decide +kernel) (by decide +kernel)
theorem tw_1201 : Cond.instanceMethod yX10_takesTest ∈ Wd := wd_of 1201 (by decide +kernel) (by decide +kernel)
theorem tw_38 : Cond.selects RX10 yX10_takesTest yX10_takesTest ∈ Wd := wd_of 38 (by decide +kernel) (by decide +kernel)
theorem cf_X10_213 : CFv RX10 mX10_takesTest 213 0 := ⟨cp_X10_takesTest, tw_1199, tw_1201, tw_38⟩
theorem tw_1206 : mcode mX10_place ∈ Wd := wd_of 1206 (by decide +kernel) (by decide +kernel)
theorem cp_X10_place : CFp mX10_place 1 := ⟨tw_1206, tw_87, by decide, by decide, by decide, by decide +kernel⟩
theorem tw_1203 : Cond.methodLink RX10 203 yX10_place ∈ Wd := wd_of 1203 (by decide +kernel) (by decide +kernel)
theorem tw_1205 : Cond.instanceMethod yX10_place ∈ Wd := wd_of 1205 (by decide +kernel) (by decide +kernel)
theorem tw_39 : Cond.selects RX10 yX10_place yX10_place ∈ Wd := wd_of 39 (by decide +kernel) (by decide +kernel)
theorem cf_X10_203 : CFv RX10 mX10_place 203 1 := ⟨cp_X10_place, tw_1203, tw_1205, tw_39⟩
theorem tw_1210 : mcode mX10_put ∈ Wd := wd_of 1210 (by decide +kernel) (by decide +kernel)
theorem cp_X10_put : CFp mX10_put 1 := ⟨tw_1210, tw_87, by decide, by decide, by decide, by decide +kernel⟩
theorem tw_1207 : Cond.methodLink RX10 199 yX10_put ∈ Wd := wd_of 1207 (by decide +kernel) (by decide +kernel)
theorem tw_1209 : Cond.instanceMethod yX10_put ∈ Wd := wd_of 1209 (by decide +kernel) (by decide +kernel)
theorem tw_40 : Cond.selects RX10 yX10_put yX10_put ∈ Wd := wd_of 40 (by decide +kernel) (by decide +kernel)
theorem cf_X10_199 : CFv RX10 mX10_put 199 1 := ⟨cp_X10_put, tw_1207, tw_1209, tw_40⟩
theorem tw_1214 : mcode mX10_whole ∈ Wd := wd_of 1214 (by decide +kernel) (by decide +kernel)
theorem cp_X10_whole : CFp mX10_whole 0 := ⟨tw_1214, tw_87, by decide, by decide, by decide, by decide +kernel⟩
theorem tw_1211 : Cond.methodLink RX10 210 yX10_whole ∈ Wd := wd_of 1211 (by decide +kernel) (by decide +kernel)
theorem tw_1213 : Cond.instanceMethod yX10_whole ∈ Wd := wd_of 1213 (by decide +kernel) (by decide +kernel)
theorem tw_41 : Cond.selects RX10 yX10_whole yX10_whole ∈ Wd := wd_of 41 (by decide +kernel) (by decide +kernel)
theorem cf_X10_210 : CFv RX10 mX10_whole 210 0 := ⟨cp_X10_whole, tw_1211, tw_1213, tw_41⟩
theorem tw_1218 : mcode mX10_settle ∈ Wd := wd_of 1218 (by decide +kernel) (by decide +kernel)
theorem cp_X10_settle : CFp mX10_settle 1 := ⟨tw_1218, tw_87, by decide, by decide, by decide, by decide +kernel⟩
theorem tw_1215 : Cond.methodLink RX10 216 yX10_settle ∈ Wd := wd_of 1215 (by decide +kernel) (by decide +kernel)
theorem tw_1217 : Cond.instanceMethod yX10_settle ∈ Wd := wd_of 1217 (by decide +kernel) (by decide +kernel)
theorem tw_42 : Cond.selects RX10 yX10_settle yX10_settle ∈ Wd := wd_of 42 (by decide +kernel) (by decide +kernel)
theorem cf_X10_216 : CFv RX10 mX10_settle 216 1 := ⟨cp_X10_settle, tw_1215, tw_1217, tw_42⟩
theorem tw_1222 : mcode mX10_of ∈ Wd := wd_of 1222 (by decide +kernel) (by decide +kernel)
theorem cp_X10_of : CFp mX10_of 2 := ⟨tw_1222, tw_87, by decide, by decide, by decide, by decide +kernel⟩
theorem tw_1219 : Cond.methodLink RL 21 yX10_of ∈ Wd := wd_of 1219 (by decide +kernel) (by decide +kernel)
theorem tw_1220 : Cond.instanceMethod yX10_of ∈ Wd := wd_of 1220 (by decide +kernel) (by decide +kernel)
theorem tw_1221 : Cond.selects RX10 yX10_of yX10_of ∈ Wd := wd_of 1221 (by decide +kernel) (by decide +kernel)
theorem cf_L_21 : CFv RL mX10_of 21 2 := ⟨cp_X10_of, tw_1219, tw_1220, tw_1221⟩
theorem tw_1226 : mcode mX10_isMan ∈ Wd := wd_of 1226 (by decide +kernel) (by decide +kernel)
theorem cp_X10_isMan : CFp mX10_isMan 1 := ⟨tw_1226, tw_87, by decide, by decide, by decide, by decide +kernel⟩
theorem tw_1223 : Cond.methodLink RX10 281 yX10_isMan ∈ Wd := wd_of 1223 (by decide +kernel) (by decide +kernel)
theorem tw_1225 : Cond.instanceMethod yX10_isMan ∈ Wd := wd_of 1225 (by decide +kernel) (by decide +kernel)
theorem tw_43 : Cond.selects RX10 yX10_isMan yX10_isMan ∈ Wd := wd_of 43 (by decide +kernel) (by decide +kernel)
theorem cf_X10_281 : CFv RX10 mX10_isMan 281 1 := ⟨cp_X10_isMan, tw_1223, tw_1225, tw_43⟩
theorem tw_1230 : mcode mX10_partsOf ∈ Wd := wd_of 1230 (by decide +kernel) (by decide +kernel)
theorem cp_X10_partsOf : CFp mX10_partsOf 1 := ⟨tw_1230, tw_87, by decide, by decide, by decide, by decide +kernel⟩
theorem tw_1227 : Cond.methodLink RX10 269 yX10_partsOf ∈ Wd := wd_of 1227 (by decide +kernel) (by decide +kernel)
theorem tw_1229 : Cond.instanceMethod yX10_partsOf ∈ Wd := wd_of 1229 (by decide +kernel) (by decide +kernel)
theorem tw_44 : Cond.selects RX10 yX10_partsOf yX10_partsOf ∈ Wd := wd_of 44 (by decide +kernel) (by decide +kernel)
theorem cf_X10_269 : CFv RX10 mX10_partsOf 269 1 := ⟨cp_X10_partsOf, tw_1227, tw_1229, tw_44⟩
theorem tw_1234 : mcode mX10_shares ∈ Wd := wd_of 1234 (by decide +kernel) (by decide +kernel)
theorem cp_X10_shares : CFp mX10_shares 0 := ⟨tw_1234, tw_87, by decide, by decide, by decide, by decide +kernel⟩
theorem tw_1231 : Cond.methodLink RX10 262 yX10_shares ∈ Wd := wd_of 1231 (by decide +kernel) (by decide +kernel)
theorem tw_1233 : Cond.instanceMethod yX10_shares ∈ Wd := wd_of 1233 (by decide +kernel) (by decide +kernel)
theorem tw_45 : Cond.selects RX10 yX10_shares yX10_shares ∈ Wd := wd_of 45 (by decide +kernel) (by decide +kernel)
theorem cf_X10_262 : CFv RX10 mX10_shares 262 0 := ⟨cp_X10_shares, tw_1231, tw_1233, tw_45⟩
theorem tw_1238 : mcode mX10_lastOf ∈ Wd := wd_of 1238 (by decide +kernel) (by decide +kernel)
theorem cp_X10_lastOf : CFp mX10_lastOf 2 := ⟨tw_1238, tw_87, by decide, by decide, by decide, by decide +kernel⟩
theorem tw_1235 : Cond.methodLink RX10 244 yX10_lastOf ∈ Wd := wd_of 1235 (by decide +kernel) (by decide +kernel)
theorem tw_1237 : Cond.instanceMethod yX10_lastOf ∈ Wd := wd_of 1237 (by decide +kernel) (by decide +kernel)
theorem tw_46 : Cond.selects RX10 yX10_lastOf yX10_lastOf ∈ Wd := wd_of 46 (by decide +kernel) (by decide +kernel)
theorem cf_X10_244 : CFv RX10 mX10_lastOf 244 2 := ⟨cp_X10_lastOf, tw_1235, tw_1237, tw_46⟩
theorem tw_1242 : mcode mX10_begin ∈ Wd := wd_of 1242 (by decide +kernel) (by decide +kernel)
theorem cp_X10_begin : CFp mX10_begin 0 := ⟨tw_1242, tw_87, by decide, by decide, by decide, by decide +kernel⟩
theorem tw_1239 : Cond.methodLink RX10 238 yX10_begin ∈ Wd := wd_of 1239 (by decide +kernel) (by decide +kernel)
theorem tw_1241 : Cond.instanceMethod yX10_begin ∈ Wd := wd_of 1241 (by decide +kernel) (by decide +kernel)
theorem tw_47 : Cond.selects RX10 yX10_begin yX10_begin ∈ Wd := wd_of 47 (by decide +kernel) (by decide +kernel)
theorem cf_X10_238 : CFv RX10 mX10_begin 238 0 := ⟨cp_X10_begin, tw_1239, tw_1241, tw_47⟩
theorem tw_1246 : mcode mX10_behind ∈ Wd := wd_of 1246 (by decide +kernel) (by decide +kernel)
theorem cp_X10_behind : CFp mX10_behind 0 := ⟨tw_1246, tw_87, by decide, by decide, by decide, by decide +kernel⟩
theorem tw_1243 : Cond.methodLink RX10 241 yX10_behind ∈ Wd := wd_of 1243 (by decide +kernel) (by decide +kernel)
theorem tw_1245 : Cond.instanceMethod yX10_behind ∈ Wd := wd_of 1245 (by decide +kernel) (by decide +kernel)
theorem tw_48 : Cond.selects RX10 yX10_behind yX10_behind ∈ Wd := wd_of 48 (by decide +kernel) (by decide +kernel)
theorem cf_X10_241 : CFv RX10 mX10_behind 241 0 := ⟨cp_X10_behind, tw_1243, tw_1245, tw_48⟩
theorem tw_1250 : mcode mX10_overOf ∈ Wd := wd_of 1250 (by decide +kernel) (by decide +kernel)
theorem cp_X10_overOf : CFp mX10_overOf 3 := ⟨tw_1250, tw_87, by decide, by decide, by decide, by decide +kernel⟩
theorem tw_1247 : Cond.methodLink RX10 265 yX10_overOf ∈ Wd := wd_of 1247 (by decide +kernel) (by decide +kernel)
theorem tw_1249 : Cond.instanceMethod yX10_overOf ∈ Wd := wd_of 1249 (by decide +kernel) (by decide +kernel)
theorem tw_49 : Cond.selects RX10 yX10_overOf yX10_overOf ∈ Wd := wd_of 49 (by decide +kernel) (by decide +kernel)
theorem cf_X10_265 : CFv RX10 mX10_overOf 265 3 := ⟨cp_X10_overOf, tw_1247, tw_1249, tw_49⟩
theorem tw_1254 : mcode mX10_hasOver ∈ Wd := wd_of 1254 (by decide +kernel) (by decide +kernel)
theorem cp_X10_hasOver : CFp mX10_hasOver 0 := ⟨tw_1254, tw_87, by decide, by decide, by decide, by decide +kernel⟩
theorem tw_1251 : Cond.methodLink RX10 256 yX10_hasOver ∈ Wd := wd_of 1251 (by decide +kernel) (by decide +kernel)
theorem tw_1253 : Cond.instanceMethod yX10_hasOver ∈ Wd := wd_of 1253 (by decide +kernel) (by decide +kernel)
theorem tw_50 : Cond.selects RX10 yX10_hasOver yX10_hasOver ∈ Wd := wd_of 50 (by decide +kernel) (by decide +kernel)
theorem cf_X10_256 : CFv RX10 mX10_hasOver 256 0 := ⟨cp_X10_hasOver, tw_1251, tw_1253, tw_50⟩
theorem tw_1258 : mcode mX10_sumOf ∈ Wd := wd_of 1258 (by decide +kernel) (by decide +kernel)
theorem cp_X10_sumOf : CFp mX10_sumOf 4 := ⟨tw_1258, tw_87, by decide, by decide, by decide, by decide +kernel⟩
theorem tw_1255 : Cond.methodLink RX10 259 yX10_sumOf ∈ Wd := wd_of 1255 (by decide +kernel) (by decide +kernel)
theorem tw_1257 : Cond.instanceMethod yX10_sumOf ∈ Wd := wd_of 1257 (by decide +kernel) (by decide +kernel)
theorem tw_51 : Cond.selects RX10 yX10_sumOf yX10_sumOf ∈ Wd := wd_of 51 (by decide +kernel) (by decide +kernel)
theorem cf_X10_259 : CFv RX10 mX10_sumOf 259 4 := ⟨cp_X10_sumOf, tw_1255, tw_1257, tw_51⟩
theorem tw_1262 : mcode mX10_holds ∈ Wd := wd_of 1262 (by decide +kernel) (by decide +kernel)
theorem cp_X10_holds : CFp mX10_holds 4 := ⟨tw_1262, tw_87, by decide, by decide, by decide, by decide +kernel⟩
theorem tw_1259 : Cond.methodLink RX10 252 yX10_holds ∈ Wd := wd_of 1259 (by decide +kernel) (by decide +kernel)
theorem tw_1261 : Cond.instanceMethod yX10_holds ∈ Wd := wd_of 1261 (by decide +kernel) (by decide +kernel)
theorem tw_52 : Cond.selects RX10 yX10_holds yX10_holds ∈ Wd := wd_of 52 (by decide +kernel) (by decide +kernel)
theorem cf_X10_252 : CFv RX10 mX10_holds 252 4 := ⟨cp_X10_holds, tw_1259, tw_1261, tw_52⟩
theorem tw_1266 : mcode mX10_factOf ∈ Wd := wd_of 1266 (by decide +kernel) (by decide +kernel)
theorem cp_X10_factOf : CFp mX10_factOf 4 := ⟨tw_1266, tw_87, by decide, by decide, by decide, by decide +kernel⟩
theorem tw_1263 : Cond.methodLink RX10 248 yX10_factOf ∈ Wd := wd_of 1263 (by decide +kernel) (by decide +kernel)
theorem tw_1265 : Cond.instanceMethod yX10_factOf ∈ Wd := wd_of 1265 (by decide +kernel) (by decide +kernel)
theorem tw_53 : Cond.selects RX10 yX10_factOf yX10_factOf ∈ Wd := wd_of 53 (by decide +kernel) (by decide +kernel)
theorem cf_X10_248 : CFv RX10 mX10_factOf 248 4 := ⟨cp_X10_factOf, tw_1263, tw_1265, tw_53⟩
theorem tw_1270 : mcode mX10_comesOut ∈ Wd := wd_of 1270 (by decide +kernel) (by decide +kernel)
theorem cp_X10_comesOut : CFp mX10_comesOut 3 := ⟨tw_1270, tw_87, by decide, by decide, by decide, by decide +kernel⟩
theorem tw_1267 : Cond.methodLink RX10 272 yX10_comesOut ∈ Wd := wd_of 1267 (by decide +kernel) (by decide +kernel)
theorem tw_1269 : Cond.instanceMethod yX10_comesOut ∈ Wd := wd_of 1269 (by decide +kernel) (by decide +kernel)
theorem tw_54 : Cond.selects RX10 yX10_comesOut yX10_comesOut ∈ Wd := wd_of 54 (by decide +kernel) (by decide +kernel)
theorem cf_X10_272 : CFv RX10 mX10_comesOut 272 3 := ⟨cp_X10_comesOut, tw_1267, tw_1269, tw_54⟩
theorem tw_1274 : mcode mX10_told ∈ Wd := wd_of 1274 (by decide +kernel) (by decide +kernel)
theorem cp_X10_told : CFp mX10_told 1 := ⟨tw_1274, tw_87, by decide, by decide, by decide, by decide +kernel⟩
theorem tw_1271 : Cond.methodLink RL 39 yX10_told ∈ Wd := wd_of 1271 (by decide +kernel) (by decide +kernel)
theorem tw_1272 : Cond.instanceMethod yX10_told ∈ Wd := wd_of 1272 (by decide +kernel) (by decide +kernel)
theorem tw_1273 : Cond.selects RX10 yX10_told yX10_told ∈ Wd := wd_of 1273 (by decide +kernel) (by decide +kernel)
theorem cf_L_39 : CFv RL mX10_told 39 1 := ⟨cp_X10_told, tw_1271, tw_1272, tw_1273⟩
theorem tw_1278 : mcode mX10_wake ∈ Wd := wd_of 1278 (by decide +kernel) (by decide +kernel)
theorem cp_X10_wake : CFp mX10_wake 1 := ⟨tw_1278, tw_87, by decide, by decide, by decide, by decide +kernel⟩
theorem tw_1275 : Cond.methodLink RL 43 yX10_wake ∈ Wd := wd_of 1275 (by decide +kernel) (by decide +kernel)
theorem tw_1276 : Cond.instanceMethod yX10_wake ∈ Wd := wd_of 1276 (by decide +kernel) (by decide +kernel)
theorem tw_1277 : Cond.selects RX10 yX10_wake yX10_wake ∈ Wd := wd_of 1277 (by decide +kernel) (by decide +kernel)
theorem cf_L_43 : CFv RL mX10_wake 43 1 := ⟨cp_X10_wake, tw_1275, tw_1276, tw_1277⟩
theorem tw_1282 : mcode mX10_wakes ∈ Wd := wd_of 1282 (by decide +kernel) (by decide +kernel)
theorem cp_X10_wakes : CFp mX10_wakes 2 := ⟨tw_1282, tw_87, by decide, by decide, by decide, by decide +kernel⟩
theorem tw_1279 : Cond.methodLink RX10 284 yX10_wakes ∈ Wd := wd_of 1279 (by decide +kernel) (by decide +kernel)
theorem tw_1281 : Cond.instanceMethod yX10_wakes ∈ Wd := wd_of 1281 (by decide +kernel) (by decide +kernel)
theorem tw_55 : Cond.selects RX10 yX10_wakes yX10_wakes ∈ Wd := wd_of 55 (by decide +kernel) (by decide +kernel)
theorem cf_X10_284 : CFv RX10 mX10_wakes 284 2 := ⟨cp_X10_wakes, tw_1279, tw_1281, tw_55⟩
theorem tw_1286 : mcode mX10_shared ∈ Wd := wd_of 1286 (by decide +kernel) (by decide +kernel)
theorem cp_X10_shared : CFp mX10_shared 2 := ⟨tw_1286, tw_87, by decide, by decide, by decide, by decide +kernel⟩
theorem tw_1283 : Cond.methodLink RX10 278 yX10_shared ∈ Wd := wd_of 1283 (by decide +kernel) (by decide +kernel)
theorem tw_1285 : Cond.instanceMethod yX10_shared ∈ Wd := wd_of 1285 (by decide +kernel) (by decide +kernel)
theorem tw_56 : Cond.selects RX10 yX10_shared yX10_shared ∈ Wd := wd_of 56 (by decide +kernel) (by decide +kernel)
theorem cf_X10_278 : CFv RX10 mX10_shared 278 2 := ⟨cp_X10_shared, tw_1283, tw_1285, tw_56⟩
theorem tw_1290 : mcode mX10_hidesOf ∈ Wd := wd_of 1290 (by decide +kernel) (by decide +kernel)
theorem cp_X10_hidesOf : CFp mX10_hidesOf 3 := ⟨tw_1290, tw_87, by decide, by decide, by decide, by decide +kernel⟩
theorem tw_1287 : Cond.methodLink RX10 275 yX10_hidesOf ∈ Wd := wd_of 1287 (by decide +kernel) (by decide +kernel)
theorem tw_1289 : Cond.instanceMethod yX10_hidesOf ∈ Wd := wd_of 1289 (by decide +kernel) (by decide +kernel)
theorem tw_57 : Cond.selects RX10 yX10_hidesOf yX10_hidesOf ∈ Wd := wd_of 57 (by decide +kernel) (by decide +kernel)
theorem cf_X10_275 : CFv RX10 mX10_hidesOf 275 3 := ⟨cp_X10_hidesOf, tw_1287, tw_1289, tw_57⟩
theorem tw_1294 : mcode mX10_row ∈ Wd := wd_of 1294 (by decide +kernel) (by decide +kernel)
theorem cp_X10_row : CFp mX10_row 1 := ⟨tw_1294, tw_87, by decide, by decide, by decide, by decide +kernel⟩
theorem tw_1291 : Cond.methodLink RL 47 yX10_row ∈ Wd := wd_of 1291 (by decide +kernel) (by decide +kernel)
theorem tw_1292 : Cond.instanceMethod yX10_row ∈ Wd := wd_of 1292 (by decide +kernel) (by decide +kernel)
theorem tw_1293 : Cond.selects RX10 yX10_row yX10_row ∈ Wd := wd_of 1293 (by decide +kernel) (by decide +kernel)
theorem cf_L_47 : CFv RL mX10_row 47 1 := ⟨cp_X10_row, tw_1291, tw_1292, tw_1293⟩
theorem tw_1298 : mcode mX10_night ∈ Wd := wd_of 1298 (by decide +kernel) (by decide +kernel)
theorem cp_X10_night : CFp mX10_night 1 := ⟨tw_1298, tw_87, by decide, by decide, by decide, by decide +kernel⟩
theorem tw_1295 : Cond.methodLink RL 51 yX10_night ∈ Wd := wd_of 1295 (by decide +kernel) (by decide +kernel)
theorem tw_1296 : Cond.instanceMethod yX10_night ∈ Wd := wd_of 1296 (by decide +kernel) (by decide +kernel)
theorem tw_1297 : Cond.selects RX10 yX10_night yX10_night ∈ Wd := wd_of 1297 (by decide +kernel) (by decide +kernel)
theorem cf_L_51 : CFv RL mX10_night 51 1 := ⟨cp_X10_night, tw_1295, tw_1296, tw_1297⟩
theorem tw_1302 : mcode mX10_isNight ∈ Wd := wd_of 1302 (by decide +kernel) (by decide +kernel)
theorem cp_X10_isNight : CFp mX10_isNight 1 := ⟨tw_1302, tw_87, by decide, by decide, by decide, by decide +kernel⟩
theorem tw_1299 : Cond.methodLink RX10 290 yX10_isNight ∈ Wd := wd_of 1299 (by decide +kernel) (by decide +kernel)
theorem tw_1301 : Cond.instanceMethod yX10_isNight ∈ Wd := wd_of 1301 (by decide +kernel) (by decide +kernel)
theorem tw_58 : Cond.selects RX10 yX10_isNight yX10_isNight ∈ Wd := wd_of 58 (by decide +kernel) (by decide +kernel)
theorem cf_X10_290 : CFv RX10 mX10_isNight 290 1 := ⟨cp_X10_isNight, tw_1299, tw_1301, tw_58⟩
theorem tw_1306 : mcode mX10_goesRow ∈ Wd := wd_of 1306 (by decide +kernel) (by decide +kernel)
theorem cp_X10_goesRow : CFp mX10_goesRow 1 := ⟨tw_1306, tw_87, by decide, by decide, by decide, by decide +kernel⟩
theorem tw_1303 : Cond.methodLink RX10 287 yX10_goesRow ∈ Wd := wd_of 1303 (by decide +kernel) (by decide +kernel)
theorem tw_1305 : Cond.instanceMethod yX10_goesRow ∈ Wd := wd_of 1305 (by decide +kernel) (by decide +kernel)
theorem tw_59 : Cond.selects RX10 yX10_goesRow yX10_goesRow ∈ Wd := wd_of 59 (by decide +kernel) (by decide +kernel)
theorem cf_X10_287 : CFv RX10 mX10_goesRow 287 1 := ⟨cp_X10_goesRow, tw_1303, tw_1305, tw_59⟩
theorem tw_1310 : mcode mX10_least ∈ Wd := wd_of 1310 (by decide +kernel) (by decide +kernel)
theorem cp_X10_least : CFp mX10_least 1 := ⟨tw_1310, tw_87, by decide, by decide, by decide, by decide +kernel⟩
theorem tw_1307 : Cond.methodLink RL 55 yX10_least ∈ Wd := wd_of 1307 (by decide +kernel) (by decide +kernel)
theorem tw_1308 : Cond.instanceMethod yX10_least ∈ Wd := wd_of 1308 (by decide +kernel) (by decide +kernel)
theorem tw_1309 : Cond.selects RX10 yX10_least yX10_least ∈ Wd := wd_of 1309 (by decide +kernel) (by decide +kernel)
theorem cf_L_55 : CFv RL mX10_least 55 1 := ⟨cp_X10_least, tw_1307, tw_1308, tw_1309⟩
theorem tw_1314 : mcode mX10_all ∈ Wd := wd_of 1314 (by decide +kernel) (by decide +kernel)
theorem cp_X10_all : CFp mX10_all 1 := ⟨tw_1314, tw_87, by decide, by decide, by decide, by decide +kernel⟩
theorem tw_1311 : Cond.methodLink RL 59 yX10_all ∈ Wd := wd_of 1311 (by decide +kernel) (by decide +kernel)
theorem tw_1312 : Cond.instanceMethod yX10_all ∈ Wd := wd_of 1312 (by decide +kernel) (by decide +kernel)
theorem tw_1313 : Cond.selects RX10 yX10_all yX10_all ∈ Wd := wd_of 1313 (by decide +kernel) (by decide +kernel)
theorem cf_L_59 : CFv RL mX10_all 59 1 := ⟨cp_X10_all, tw_1311, tw_1312, tw_1313⟩
theorem tw_1318 : mcode mX10_greatest ∈ Wd := wd_of 1318 (by decide +kernel) (by decide +kernel)
theorem cp_X10_greatest : CFp mX10_greatest 1 := ⟨tw_1318, tw_87, by decide, by decide, by decide, by decide +kernel⟩
theorem tw_1315 : Cond.methodLink RL 63 yX10_greatest ∈ Wd := wd_of 1315 (by decide +kernel) (by decide +kernel)
theorem tw_1316 : Cond.instanceMethod yX10_greatest ∈ Wd := wd_of 1316 (by decide +kernel) (by decide +kernel)
theorem tw_1317 : Cond.selects RX10 yX10_greatest yX10_greatest ∈ Wd := wd_of 1317 (by decide +kernel) (by decide +kernel)
theorem cf_L_63 : CFv RL mX10_greatest 63 1 := ⟨cp_X10_greatest, tw_1315, tw_1316, tw_1317⟩
theorem tw_1322 : mcode mX10_left ∈ Wd := wd_of 1322 (by decide +kernel) (by decide +kernel)
theorem cp_X10_left : CFp mX10_left 2 := ⟨tw_1322, tw_87, by decide, by decide, by decide, by decide +kernel⟩
theorem tw_1319 : Cond.methodLink RL 67 yX10_left ∈ Wd := wd_of 1319 (by decide +kernel) (by decide +kernel)
theorem tw_1320 : Cond.instanceMethod yX10_left ∈ Wd := wd_of 1320 (by decide +kernel) (by decide +kernel)
theorem tw_1321 : Cond.selects RX10 yX10_left yX10_left ∈ Wd := wd_of 1321 (by decide +kernel) (by decide +kernel)
theorem cf_L_67 : CFv RL mX10_left 67 2 := ⟨cp_X10_left, tw_1319, tw_1320, tw_1321⟩
theorem tw_1326 : mcode mX10_was ∈ Wd := wd_of 1326 (by decide +kernel) (by decide +kernel)
theorem cp_X10_was : CFp mX10_was 1 := ⟨tw_1326, tw_87, by decide, by decide, by decide, by decide +kernel⟩
theorem tw_1323 : Cond.methodLink RL 71 yX10_was ∈ Wd := wd_of 1323 (by decide +kernel) (by decide +kernel)
theorem tw_1324 : Cond.instanceMethod yX10_was ∈ Wd := wd_of 1324 (by decide +kernel) (by decide +kernel)
theorem tw_1325 : Cond.selects RX10 yX10_was yX10_was ∈ Wd := wd_of 1325 (by decide +kernel) (by decide +kernel)
theorem cf_L_71 : CFv RL mX10_was 71 1 := ⟨cp_X10_was, tw_1323, tw_1324, tw_1325⟩
theorem tw_1330 : mcode mX10_up ∈ Wd := wd_of 1330 (by decide +kernel) (by decide +kernel)
theorem cp_X10_up : CFp mX10_up 3 := ⟨tw_1330, tw_87, by decide, by decide, by decide, by decide +kernel⟩
theorem tw_1327 : Cond.methodLink RL 76 yX10_up ∈ Wd := wd_of 1327 (by decide +kernel) (by decide +kernel)
theorem tw_1328 : Cond.instanceMethod yX10_up ∈ Wd := wd_of 1328 (by decide +kernel) (by decide +kernel)
theorem tw_1329 : Cond.selects RX10 yX10_up yX10_up ∈ Wd := wd_of 1329 (by decide +kernel) (by decide +kernel)
theorem cf_L_76 : CFv RL mX10_up 76 3 := ⟨cp_X10_up, tw_1327, tw_1328, tw_1329⟩
theorem tw_1334 : mcode mX10_layUp ∈ Wd := wd_of 1334 (by decide +kernel) (by decide +kernel)
theorem cp_X10_layUp : CFp mX10_layUp 2 := ⟨tw_1334, tw_87, by decide, by decide, by decide, by decide +kernel⟩
theorem tw_1331 : Cond.methodLink RX10 293 yX10_layUp ∈ Wd := wd_of 1331 (by decide +kernel) (by decide +kernel)
theorem tw_1333 : Cond.instanceMethod yX10_layUp ∈ Wd := wd_of 1333 (by decide +kernel) (by decide +kernel)
theorem tw_60 : Cond.selects RX10 yX10_layUp yX10_layUp ∈ Wd := wd_of 60 (by decide +kernel) (by decide +kernel)
theorem cf_X10_293 : CFv RX10 mX10_layUp 293 2 := ⟨cp_X10_layUp, tw_1331, tw_1333, tw_60⟩
theorem tw_1338 : mcode mX10_leadsTo ∈ Wd := wd_of 1338 (by decide +kernel) (by decide +kernel)
theorem cp_X10_leadsTo : CFp mX10_leadsTo 3 := ⟨tw_1338, tw_87, by decide, by decide, by decide, by decide +kernel⟩
theorem tw_1335 : Cond.methodLink RX10 296 yX10_leadsTo ∈ Wd := wd_of 1335 (by decide +kernel) (by decide +kernel)
theorem tw_1337 : Cond.instanceMethod yX10_leadsTo ∈ Wd := wd_of 1337 (by decide +kernel) (by decide +kernel)
theorem tw_61 : Cond.selects RX10 yX10_leadsTo yX10_leadsTo ∈ Wd := wd_of 61 (by decide +kernel) (by decide +kernel)
theorem cf_X10_296 : CFv RX10 mX10_leadsTo 296 3 := ⟨cp_X10_leadsTo, tw_1335, tw_1337, tw_61⟩
theorem tw_1342 : mcode mX10_fair ∈ Wd := wd_of 1342 (by decide +kernel) (by decide +kernel)
theorem cp_X10_fair : CFp mX10_fair 3 := ⟨tw_1342, tw_87, by decide, by decide, by decide, by decide +kernel⟩
theorem tw_1339 : Cond.methodLink RL 81 yX10_fair ∈ Wd := wd_of 1339 (by decide +kernel) (by decide +kernel)
theorem tw_1340 : Cond.instanceMethod yX10_fair ∈ Wd := wd_of 1340 (by decide +kernel) (by decide +kernel)
theorem tw_1341 : Cond.selects RX10 yX10_fair yX10_fair ∈ Wd := wd_of 1341 (by decide +kernel) (by decide +kernel)
theorem cf_L_81 : CFv RL mX10_fair 81 3 := ⟨cp_X10_fair, tw_1339, tw_1340, tw_1341⟩
theorem tw_1347 : mcode mX10_divisor ∈ Wd := wd_of 1347 (by decide +kernel) (by decide +kernel)
theorem cp_X10_divisor : CFp mX10_divisor 2 := ⟨tw_1347, tw_87, by decide, by decide, by decide, by decide +kernel⟩
theorem tw_1344 : Cond.methodLink RX10 301 yX10_divisor ∈ Wd := wd_of 1344 (by decide +kernel) (by decide +kernel)
theorem tw_1346 : Cond.instanceMethod yX10_divisor ∈ Wd := wd_of 1346 (by decide +kernel) (by decide +kernel)
theorem tw_62 : Cond.selects RX10 yX10_divisor yX10_divisor ∈ Wd := wd_of 62 (by decide +kernel) (by decide +kernel)
theorem cf_X10_301 : CFv RX10 mX10_divisor 301 2 := ⟨cp_X10_divisor, tw_1344, tw_1346, tw_62⟩
theorem tw_1351 : mcode mX10_chance ∈ Wd := wd_of 1351 (by decide +kernel) (by decide +kernel)
theorem cp_X10_chance : CFp mX10_chance 2 := ⟨tw_1351, tw_87, by decide, by decide, by decide, by decide +kernel⟩
theorem tw_1348 : Cond.methodLink RL 86 yX10_chance ∈ Wd := wd_of 1348 (by decide +kernel) (by decide +kernel)
theorem tw_1349 : Cond.instanceMethod yX10_chance ∈ Wd := wd_of 1349 (by decide +kernel) (by decide +kernel)
theorem tw_1350 : Cond.selects RX10 yX10_chance yX10_chance ∈ Wd := wd_of 1350 (by decide +kernel) (by decide +kernel)
theorem cf_L_86 : CFv RL mX10_chance 86 2 := ⟨cp_X10_chance, tw_1348, tw_1349, tw_1350⟩
theorem tw_1355 : mcode mX10_big ∈ Wd := wd_of 1355 (by decide +kernel) (by decide +kernel)
theorem cp_X10_big : CFp mX10_big 4 := ⟨tw_1355, tw_87, by decide, by decide, by decide, by decide +kernel⟩
theorem tw_1352 : Cond.methodLink RL 91 yX10_big ∈ Wd := wd_of 1352 (by decide +kernel) (by decide +kernel)
theorem tw_1353 : Cond.instanceMethod yX10_big ∈ Wd := wd_of 1353 (by decide +kernel) (by decide +kernel)
theorem tw_1354 : Cond.selects RX10 yX10_big yX10_big ∈ Wd := wd_of 1354 (by decide +kernel) (by decide +kernel)
theorem cf_L_91 : CFv RL mX10_big 91 4 := ⟨cp_X10_big, tw_1352, tw_1353, tw_1354⟩
theorem tw_1359 : mcode mX10_layBig ∈ Wd := wd_of 1359 (by decide +kernel) (by decide +kernel)
theorem cp_X10_layBig : CFp mX10_layBig 3 := ⟨tw_1359, tw_87, by decide, by decide, by decide, by decide +kernel⟩
theorem tw_1356 : Cond.methodLink RX10 311 yX10_layBig ∈ Wd := wd_of 1356 (by decide +kernel) (by decide +kernel)
theorem tw_1358 : Cond.instanceMethod yX10_layBig ∈ Wd := wd_of 1358 (by decide +kernel) (by decide +kernel)
theorem tw_63 : Cond.selects RX10 yX10_layBig yX10_layBig ∈ Wd := wd_of 63 (by decide +kernel) (by decide +kernel)
theorem cf_X10_311 : CFv RX10 mX10_layBig 311 3 := ⟨cp_X10_layBig, tw_1356, tw_1358, tw_63⟩
theorem tw_1363 : mcode mX10_times ∈ Wd := wd_of 1363 (by decide +kernel) (by decide +kernel)
theorem cp_X10_times : CFp mX10_times 1 := ⟨tw_1363, tw_87, by decide, by decide, by decide, by decide +kernel⟩
theorem tw_1360 : Cond.methodLink RX10 305 yX10_times ∈ Wd := wd_of 1360 (by decide +kernel) (by decide +kernel)
theorem tw_1362 : Cond.instanceMethod yX10_times ∈ Wd := wd_of 1362 (by decide +kernel) (by decide +kernel)
theorem tw_64 : Cond.selects RX10 yX10_times yX10_times ∈ Wd := wd_of 64 (by decide +kernel) (by decide +kernel)
theorem cf_X10_305 : CFv RX10 mX10_times 305 1 := ⟨cp_X10_times, tw_1360, tw_1362, tw_64⟩
theorem tw_1367 : mcode mX10_less ∈ Wd := wd_of 1367 (by decide +kernel) (by decide +kernel)
theorem cp_X10_less : CFp mX10_less 1 := ⟨tw_1367, tw_87, by decide, by decide, by decide, by decide +kernel⟩
theorem tw_1364 : Cond.methodLink RX10 308 yX10_less ∈ Wd := wd_of 1364 (by decide +kernel) (by decide +kernel)
theorem tw_1366 : Cond.instanceMethod yX10_less ∈ Wd := wd_of 1366 (by decide +kernel) (by decide +kernel)
theorem tw_65 : Cond.selects RX10 yX10_less yX10_less ∈ Wd := wd_of 65 (by decide +kernel) (by decide +kernel)
theorem cf_X10_308 : CFv RX10 mX10_less 308 1 := ⟨cp_X10_less, tw_1364, tw_1366, tw_65⟩
theorem tw_1371 : mcode mX10_book ∈ Wd := wd_of 1371 (by decide +kernel) (by decide +kernel)
theorem cp_X10_book : CFp mX10_book 1 := ⟨tw_1371, tw_87, by decide, by decide, by decide, by decide +kernel⟩
theorem tw_1368 : Cond.methodLink RL 95 yX10_book ∈ Wd := wd_of 1368 (by decide +kernel) (by decide +kernel)
theorem tw_1369 : Cond.instanceMethod yX10_book ∈ Wd := wd_of 1369 (by decide +kernel) (by decide +kernel)
theorem tw_1370 : Cond.selects RX10 yX10_book yX10_book ∈ Wd := wd_of 1370 (by decide +kernel) (by decide +kernel)
theorem cf_L_95 : CFv RL mX10_book 95 1 := ⟨cp_X10_book, tw_1368, tw_1369, tw_1370⟩
theorem tw_1375 : mcode mX10_looked ∈ Wd := wd_of 1375 (by decide +kernel) (by decide +kernel)
theorem cp_X10_looked : CFp mX10_looked 0 := ⟨tw_1375, tw_87, by decide, by decide, by decide, by decide +kernel⟩
theorem tw_1372 : Cond.methodLink RL 99 yX10_looked ∈ Wd := wd_of 1372 (by decide +kernel) (by decide +kernel)
theorem tw_1373 : Cond.instanceMethod yX10_looked ∈ Wd := wd_of 1373 (by decide +kernel) (by decide +kernel)
theorem tw_1374 : Cond.selects RX10 yX10_looked yX10_looked ∈ Wd := wd_of 1374 (by decide +kernel) (by decide +kernel)
theorem cf_L_99 : CFv RL mX10_looked 99 0 := ⟨cp_X10_looked, tw_1372, tw_1373, tw_1374⟩
theorem tw_1379 : mcode mX10_judge ∈ Wd := wd_of 1379 (by decide +kernel) (by decide +kernel)
theorem cp_X10_judge : CFp mX10_judge 2 := ⟨tw_1379, tw_87, by decide, by decide, by decide, by decide +kernel⟩
theorem tw_1376 : Cond.methodLink RL 103 yX10_judge ∈ Wd := wd_of 1376 (by decide +kernel) (by decide +kernel)
theorem tw_1377 : Cond.instanceMethod yX10_judge ∈ Wd := wd_of 1377 (by decide +kernel) (by decide +kernel)
theorem tw_1378 : Cond.selects RX10 yX10_judge yX10_judge ∈ Wd := wd_of 1378 (by decide +kernel) (by decide +kernel)
theorem cf_L_103 : CFv RL mX10_judge 103 2 := ⟨cp_X10_judge, tw_1376, tw_1377, tw_1378⟩
theorem tw_1383 : mcode mX10_isTape ∈ Wd := wd_of 1383 (by decide +kernel) (by decide +kernel)
theorem cp_X10_isTape : CFp mX10_isTape 1 := ⟨tw_1383, tw_87, by decide, by decide, by decide, by decide +kernel⟩
theorem tw_1380 : Cond.methodLink RX10 315 yX10_isTape ∈ Wd := wd_of 1380 (by decide +kernel) (by decide +kernel)
theorem tw_1382 : Cond.instanceMethod yX10_isTape ∈ Wd := wd_of 1382 (by decide +kernel) (by decide +kernel)
theorem tw_66 : Cond.selects RX10 yX10_isTape yX10_isTape ∈ Wd := wd_of 66 (by decide +kernel) (by decide +kernel)
theorem cf_X10_315 : CFv RX10 mX10_isTape 315 1 := ⟨cp_X10_isTape, tw_1380, tw_1382, tw_66⟩
theorem tw_1387 : mcode mX10_image ∈ Wd := wd_of 1387 (by decide +kernel) (by decide +kernel)
theorem cp_X10_image : CFp mX10_image 0 := ⟨tw_1387, tw_87, by decide, by decide, by decide, by decide +kernel⟩
theorem tw_1384 : Cond.methodLink RL 107 yX10_image ∈ Wd := wd_of 1384 (by decide +kernel) (by decide +kernel)
theorem tw_1385 : Cond.instanceMethod yX10_image ∈ Wd := wd_of 1385 (by decide +kernel) (by decide +kernel)
theorem tw_1386 : Cond.selects RX10 yX10_image yX10_image ∈ Wd := wd_of 1386 (by decide +kernel) (by decide +kernel)
theorem cf_L_107 : CFv RL mX10_image 107 0 := ⟨cp_X10_image, tw_1384, tw_1385, tw_1386⟩
theorem tw_1391 : mcode mX10_undo ∈ Wd := wd_of 1391 (by decide +kernel) (by decide +kernel)
theorem cp_X10_undo : CFp mX10_undo 0 := ⟨tw_1391, tw_87, by decide, by decide, by decide, by decide +kernel⟩
theorem tw_1388 : Cond.methodLink RL 111 yX10_undo ∈ Wd := wd_of 1388 (by decide +kernel) (by decide +kernel)
theorem tw_1389 : Cond.instanceMethod yX10_undo ∈ Wd := wd_of 1389 (by decide +kernel) (by decide +kernel)
theorem tw_1390 : Cond.selects RX10 yX10_undo yX10_undo ∈ Wd := wd_of 1390 (by decide +kernel) (by decide +kernel)
theorem cf_L_111 : CFv RL mX10_undo 111 0 := ⟨cp_X10_undo, tw_1388, tw_1389, tw_1390⟩
theorem tw_1395 : mcode mX10_act ∈ Wd := wd_of 1395 (by decide +kernel) (by decide +kernel)
theorem cp_X10_act : CFp mX10_act 3 := ⟨tw_1395, tw_87, by decide, by decide, by decide, by decide +kernel⟩
theorem tw_1392 : Cond.methodLink RL 115 yX10_act ∈ Wd := wd_of 1392 (by decide +kernel) (by decide +kernel)
theorem tw_1393 : Cond.instanceMethod yX10_act ∈ Wd := wd_of 1393 (by decide +kernel) (by decide +kernel)
theorem tw_1394 : Cond.selects RX10 yX10_act yX10_act ∈ Wd := wd_of 1394 (by decide +kernel) (by decide +kernel)
theorem cf_L_115 : CFv RL mX10_act 115 3 := ⟨cp_X10_act, tw_1392, tw_1393, tw_1394⟩
theorem tw_1399 : mcode mX10_wakesAct ∈ Wd := wd_of 1399 (by decide +kernel) (by decide +kernel)
theorem cp_X10_wakesAct : CFp mX10_wakesAct 2 := ⟨tw_1399, tw_87, by decide, by decide, by decide, by decide +kernel⟩
theorem tw_1396 : Cond.methodLink RX10 324 yX10_wakesAct ∈ Wd := wd_of 1396 (by decide +kernel) (by decide +kernel)
theorem tw_1398 : Cond.instanceMethod yX10_wakesAct ∈ Wd := wd_of 1398 (by decide +kernel) (by decide +kernel)
theorem tw_67 : Cond.selects RX10 yX10_wakesAct yX10_wakesAct ∈ Wd := wd_of 67 (by decide +kernel) (by decide +kernel)
theorem cf_X10_324 : CFv RX10 mX10_wakesAct 324 2 := ⟨cp_X10_wakesAct, tw_1396, tw_1398, tw_67⟩
theorem tw_1403 : mcode mX10_body ∈ Wd := wd_of 1403 (by decide +kernel) (by decide +kernel)
theorem cp_X10_body : CFp mX10_body 1 := ⟨tw_1403, tw_87, by decide, by decide, by decide, by decide +kernel⟩
theorem tw_1400 : Cond.methodLink RX10 318 yX10_body ∈ Wd := wd_of 1400 (by decide +kernel) (by decide +kernel)
theorem tw_1402 : Cond.instanceMethod yX10_body ∈ Wd := wd_of 1402 (by decide +kernel) (by decide +kernel)
theorem tw_68 : Cond.selects RX10 yX10_body yX10_body ∈ Wd := wd_of 68 (by decide +kernel) (by decide +kernel)
theorem cf_X10_318 : CFv RX10 mX10_body 318 1 := ⟨cp_X10_body, tw_1400, tw_1402, tw_68⟩
theorem tw_1407 : mcode mX10_manWakes ∈ Wd := wd_of 1407 (by decide +kernel) (by decide +kernel)
theorem cp_X10_manWakes : CFp mX10_manWakes 2 := ⟨tw_1407, tw_87, by decide, by decide, by decide, by decide +kernel⟩
theorem tw_1404 : Cond.methodLink RX10 321 yX10_manWakes ∈ Wd := wd_of 1404 (by decide +kernel) (by decide +kernel)
theorem tw_1406 : Cond.instanceMethod yX10_manWakes ∈ Wd := wd_of 1406 (by decide +kernel) (by decide +kernel)
theorem tw_69 : Cond.selects RX10 yX10_manWakes yX10_manWakes ∈ Wd := wd_of 69 (by decide +kernel) (by decide +kernel)
theorem cf_X10_321 : CFv RX10 mX10_manWakes 321 2 := ⟨cp_X10_manWakes, tw_1404, tw_1406, tw_69⟩
theorem tw_1411 : mcode mX10_hidesAct ∈ Wd := wd_of 1411 (by decide +kernel) (by decide +kernel)
theorem cp_X10_hidesAct : CFp mX10_hidesAct 2 := ⟨tw_1411, tw_87, by decide, by decide, by decide, by decide +kernel⟩
theorem tw_1408 : Cond.methodLink RX10 333 yX10_hidesAct ∈ Wd := wd_of 1408 (by decide +kernel) (by decide +kernel)
theorem tw_1410 : Cond.instanceMethod yX10_hidesAct ∈ Wd := wd_of 1410 (by decide +kernel) (by decide +kernel)
theorem tw_70 : Cond.selects RX10 yX10_hidesAct yX10_hidesAct ∈ Wd := wd_of 70 (by decide +kernel) (by decide +kernel)
theorem cf_X10_333 : CFv RX10 mX10_hidesAct 333 2 := ⟨cp_X10_hidesAct, tw_1408, tw_1410, tw_70⟩
theorem tw_1415 : mcode mX10_sharingHides ∈ Wd := wd_of 1415 (by decide +kernel) (by decide +kernel)
theorem cp_X10_sharingHides : CFp mX10_sharingHides 2 := ⟨tw_1415, tw_87, by decide, by decide, by decide, by decide +kernel⟩
theorem tw_1412 : Cond.methodLink RX10 330 yX10_sharingHides ∈ Wd := wd_of 1412 (by decide +kernel) (by decide +kernel)
theorem tw_1414 : Cond.instanceMethod yX10_sharingHides ∈ Wd := wd_of 1414 (by decide +kernel) (by decide +kernel)
theorem tw_71 : Cond.selects RX10 yX10_sharingHides yX10_sharingHides ∈ Wd := wd_of 71 (by decide +kernel) (by decide +kernel)
theorem cf_X10_330 : CFv RX10 mX10_sharingHides 330 2 := ⟨cp_X10_sharingHides, tw_1412, tw_1414, tw_71⟩
theorem tw_1419 : mcode mX10_manHides ∈ Wd := wd_of 1419 (by decide +kernel) (by decide +kernel)
theorem cp_X10_manHides : CFp mX10_manHides 2 := ⟨tw_1419, tw_87, by decide, by decide, by decide, by decide +kernel⟩
theorem tw_1416 : Cond.methodLink RX10 327 yX10_manHides ∈ Wd := wd_of 1416 (by decide +kernel) (by decide +kernel)
theorem tw_1418 : Cond.instanceMethod yX10_manHides ∈ Wd := wd_of 1418 (by decide +kernel) (by decide +kernel)
theorem tw_72 : Cond.selects RX10 yX10_manHides yX10_manHides ∈ Wd := wd_of 72 (by decide +kernel) (by decide +kernel)
theorem cf_X10_327 : CFv RX10 mX10_manHides 327 2 := ⟨cp_X10_manHides, tw_1416, tw_1418, tw_72⟩
theorem tw_1423 : mcode mX10_tellsAct ∈ Wd := wd_of 1423 (by decide +kernel) (by decide +kernel)
theorem cp_X10_tellsAct : CFp mX10_tellsAct 2 := ⟨tw_1423, tw_87, by decide, by decide, by decide, by decide +kernel⟩
theorem tw_1420 : Cond.methodLink RX10 339 yX10_tellsAct ∈ Wd := wd_of 1420 (by decide +kernel) (by decide +kernel)
theorem tw_1422 : Cond.instanceMethod yX10_tellsAct ∈ Wd := wd_of 1422 (by decide +kernel) (by decide +kernel)
theorem tw_73 : Cond.selects RX10 yX10_tellsAct yX10_tellsAct ∈ Wd := wd_of 73 (by decide +kernel) (by decide +kernel)
theorem cf_X10_339 : CFv RX10 mX10_tellsAct 339 2 := ⟨cp_X10_tellsAct, tw_1420, tw_1422, tw_73⟩
theorem tw_1427 : mcode mX10_manTells ∈ Wd := wd_of 1427 (by decide +kernel) (by decide +kernel)
theorem cp_X10_manTells : CFp mX10_manTells 2 := ⟨tw_1427, tw_87, by decide, by decide, by decide, by decide +kernel⟩
theorem tw_1424 : Cond.methodLink RX10 336 yX10_manTells ∈ Wd := wd_of 1424 (by decide +kernel) (by decide +kernel)
theorem tw_1426 : Cond.instanceMethod yX10_manTells ∈ Wd := wd_of 1426 (by decide +kernel) (by decide +kernel)
theorem tw_74 : Cond.selects RX10 yX10_manTells yX10_manTells ∈ Wd := wd_of 74 (by decide +kernel) (by decide +kernel)
theorem cf_X10_336 : CFv RX10 mX10_manTells 336 2 := ⟨cp_X10_manTells, tw_1424, tw_1426, tw_74⟩
theorem tw_1431 : mcode mX10_trace ∈ Wd := wd_of 1431 (by decide +kernel) (by decide +kernel)
theorem cp_X10_trace : CFp mX10_trace 1 := ⟨tw_1431, tw_87, by decide, by decide, by decide, by decide +kernel⟩
theorem tw_1428 : Cond.methodLink RL 119 yX10_trace ∈ Wd := wd_of 1428 (by decide +kernel) (by decide +kernel)
theorem tw_1429 : Cond.instanceMethod yX10_trace ∈ Wd := wd_of 1429 (by decide +kernel) (by decide +kernel)
theorem tw_1430 : Cond.selects RX10 yX10_trace yX10_trace ∈ Wd := wd_of 1430 (by decide +kernel) (by decide +kernel)
theorem cf_L_119 : CFv RL mX10_trace 119 1 := ⟨cp_X10_trace, tw_1428, tw_1429, tw_1430⟩
theorem tw_1435 : mcode mX10_taken ∈ Wd := wd_of 1435 (by decide +kernel) (by decide +kernel)
theorem cp_X10_taken : CFp mX10_taken 2 := ⟨tw_1435, tw_87, by decide, by decide, by decide, by decide +kernel⟩
theorem tw_1432 : Cond.methodLink RL 123 yX10_taken ∈ Wd := wd_of 1432 (by decide +kernel) (by decide +kernel)
theorem tw_1433 : Cond.instanceMethod yX10_taken ∈ Wd := wd_of 1433 (by decide +kernel) (by decide +kernel)
theorem tw_1434 : Cond.selects RX10 yX10_taken yX10_taken ∈ Wd := wd_of 1434 (by decide +kernel) (by decide +kernel)
theorem cf_L_123 : CFv RL mX10_taken 123 2 := ⟨cp_X10_taken, tw_1432, tw_1433, tw_1434⟩
theorem tw_1439 : mcode mX10_count ∈ Wd := wd_of 1439 (by decide +kernel) (by decide +kernel)
theorem cp_X10_count : CFp mX10_count 1 := ⟨tw_1439, tw_87, by decide, by decide, by decide, by decide +kernel⟩
theorem tw_1436 : Cond.methodLink RL 127 yX10_count ∈ Wd := wd_of 1436 (by decide +kernel) (by decide +kernel)
theorem tw_1437 : Cond.instanceMethod yX10_count ∈ Wd := wd_of 1437 (by decide +kernel) (by decide +kernel)
theorem tw_1438 : Cond.selects RX10 yX10_count yX10_count ∈ Wd := wd_of 1438 (by decide +kernel) (by decide +kernel)
theorem cf_L_127 : CFv RL mX10_count 127 1 := ⟨cp_X10_count, tw_1436, tw_1437, tw_1438⟩
theorem tw_1443 : mcode mX10_tape ∈ Wd := wd_of 1443 (by decide +kernel) (by decide +kernel)
theorem cp_X10_tape : CFp mX10_tape 3 := ⟨tw_1443, tw_87, by decide, by decide, by decide, by decide +kernel⟩
theorem tw_1440 : Cond.methodLink RL 131 yX10_tape ∈ Wd := wd_of 1440 (by decide +kernel) (by decide +kernel)
theorem tw_1441 : Cond.instanceMethod yX10_tape ∈ Wd := wd_of 1441 (by decide +kernel) (by decide +kernel)
theorem tw_1442 : Cond.selects RX10 yX10_tape yX10_tape ∈ Wd := wd_of 1442 (by decide +kernel) (by decide +kernel)
theorem cf_L_131 : CFv RL mX10_tape 131 3 := ⟨cp_X10_tape, tw_1440, tw_1441, tw_1442⟩
theorem tw_1447 : mcode mX10_item ∈ Wd := wd_of 1447 (by decide +kernel) (by decide +kernel)
theorem cp_X10_item : CFp mX10_item 3 := ⟨tw_1447, tw_87, by decide, by decide, by decide, by decide +kernel⟩
theorem tw_1444 : Cond.methodLink RL 138 yX10_item ∈ Wd := wd_of 1444 (by decide +kernel) (by decide +kernel)
theorem tw_1445 : Cond.instanceMethod yX10_item ∈ Wd := wd_of 1445 (by decide +kernel) (by decide +kernel)
theorem tw_1446 : Cond.selects RX10 yX10_item yX10_item ∈ Wd := wd_of 1446 (by decide +kernel) (by decide +kernel)
theorem cf_L_138 : CFv RL mX10_item 138 3 := ⟨cp_X10_item, tw_1444, tw_1445, tw_1446⟩
theorem tw_1451 : mcode mX10_narrow ∈ Wd := wd_of 1451 (by decide +kernel) (by decide +kernel)
theorem cp_X10_narrow : CFp mX10_narrow 2 := ⟨tw_1451, tw_87, by decide, by decide, by decide, by decide +kernel⟩
theorem tw_1448 : Cond.methodLink RX10 342 yX10_narrow ∈ Wd := wd_of 1448 (by decide +kernel) (by decide +kernel)
theorem tw_1450 : Cond.instanceMethod yX10_narrow ∈ Wd := wd_of 1450 (by decide +kernel) (by decide +kernel)
theorem tw_75 : Cond.selects RX10 yX10_narrow yX10_narrow ∈ Wd := wd_of 75 (by decide +kernel) (by decide +kernel)
theorem cf_X10_342 : CFv RX10 mX10_narrow 342 2 := ⟨cp_X10_narrow, tw_1448, tw_1450, tw_75⟩
theorem tw_1455 : mcode mX10_read ∈ Wd := wd_of 1455 (by decide +kernel) (by decide +kernel)
theorem cp_X10_read : CFp mX10_read 2 := ⟨tw_1455, tw_87, by decide, by decide, by decide, by decide +kernel⟩
theorem tw_1452 : Cond.methodLink RL 142 yX10_read ∈ Wd := wd_of 1452 (by decide +kernel) (by decide +kernel)
theorem tw_1453 : Cond.instanceMethod yX10_read ∈ Wd := wd_of 1453 (by decide +kernel) (by decide +kernel)
theorem tw_1454 : Cond.selects RX10 yX10_read yX10_read ∈ Wd := wd_of 1454 (by decide +kernel) (by decide +kernel)
theorem cf_L_142 : CFv RL mX10_read 142 2 := ⟨cp_X10_read, tw_1452, tw_1453, tw_1454⟩
theorem tw_1459 : mcode mX10_shift ∈ Wd := wd_of 1459 (by decide +kernel) (by decide +kernel)
theorem cp_X10_shift : CFp mX10_shift 5 := ⟨tw_1459, tw_87, by decide, by decide, by decide, by decide +kernel⟩
theorem tw_1456 : Cond.methodLink RL 147 yX10_shift ∈ Wd := wd_of 1456 (by decide +kernel) (by decide +kernel)
theorem tw_1457 : Cond.instanceMethod yX10_shift ∈ Wd := wd_of 1457 (by decide +kernel) (by decide +kernel)
theorem tw_1458 : Cond.selects RX10 yX10_shift yX10_shift ∈ Wd := wd_of 1458 (by decide +kernel) (by decide +kernel)
theorem cf_L_147 : CFv RL mX10_shift 147 5 := ⟨cp_X10_shift, tw_1456, tw_1457, tw_1458⟩
theorem tw_76 : Cond.initialized RL ∈ Wd := wd_of 76 (by decide +kernel) (by decide +kernel)
theorem tw_93 : Cond.initialized RJ10 ∈ Wd := wd_of 93 (by decide +kernel) (by decide +kernel)
theorem tw_95 : Cond.classLink RL 7 RX9 ∈ Wd := wd_of 95 (by decide +kernel) (by decide +kernel)
theorem tw_96 : Cond.instantiable RX9 13 ∈ Wd := wd_of 96 (by decide +kernel) (by decide +kernel)
theorem tw_103 : Cond.classLink RX9 9 RX1 ∈ Wd := wd_of 103 (by decide +kernel) (by decide +kernel)
theorem tw_104 : Cond.instantiable RX1 12 ∈ Wd := wd_of 104 (by decide +kernel) (by decide +kernel)
theorem tw_164 : Cond.arrayClass .int ∈ Wd := wd_of 164 (by decide +kernel) (by decide +kernel)
theorem tw_165 : Cond.classLink RX9 25 RX7 ∈ Wd := wd_of 165 (by decide +kernel) (by decide +kernel)
theorem tw_166 : Cond.instantiable RX7 4 ∈ Wd := wd_of 166 (by decide +kernel) (by decide +kernel)
theorem tw_184 : Cond.arrayClass .byte ∈ Wd := wd_of 184 (by decide +kernel) (by decide +kernel)
theorem tw_185 : Cond.classLink RX9 32 RX6 ∈ Wd := wd_of 185 (by decide +kernel) (by decide +kernel)
theorem tw_186 : Cond.instantiable RX6 9 ∈ Wd := wd_of 186 (by decide +kernel) (by decide +kernel)
theorem tw_225 : Cond.arrayClass .boolean ∈ Wd := wd_of 225 (by decide +kernel) (by decide +kernel)
theorem tw_227 : Cond.classLink RX9 47 RX8 ∈ Wd := wd_of 227 (by decide +kernel) (by decide +kernel)
theorem tw_228 : Cond.instantiable RX8 10 ∈ Wd := wd_of 228 (by decide +kernel) (by decide +kernel)
theorem tw_271 : Cond.classLink RX9 54 RX3 ∈ Wd := wd_of 271 (by decide +kernel) (by decide +kernel)
theorem tw_272 : Cond.instantiable RX3 8 ∈ Wd := wd_of 272 (by decide +kernel) (by decide +kernel)
theorem tw_277 : Cond.classLink RX3 9 RX8 ∈ Wd := wd_of 277 (by decide +kernel) (by decide +kernel)
theorem tw_307 : Cond.classLink RX9 61 RX4 ∈ Wd := wd_of 307 (by decide +kernel) (by decide +kernel)
theorem tw_308 : Cond.instantiable RX4 7 ∈ Wd := wd_of 308 (by decide +kernel) (by decide +kernel)
theorem tw_313 : Cond.classLink RX4 9 RX8 ∈ Wd := wd_of 313 (by decide +kernel) (by decide +kernel)
theorem tw_338 : Cond.classLink RX9 68 RX2 ∈ Wd := wd_of 338 (by decide +kernel) (by decide +kernel)
theorem tw_339 : Cond.instantiable RX2 1 ∈ Wd := wd_of 339 (by decide +kernel) (by decide +kernel)
theorem tw_348 : Cond.classLink RX9 75 RX0 ∈ Wd := wd_of 348 (by decide +kernel) (by decide +kernel)
theorem tw_349 : Cond.instantiable RX0 5 ∈ Wd := wd_of 349 (by decide +kernel) (by decide +kernel)
theorem tw_371 : Cond.classLink RX9 82 RX5 ∈ Wd := wd_of 371 (by decide +kernel) (by decide +kernel)
theorem tw_373 : Cond.instantiable RX5 3 ∈ Wd := wd_of 373 (by decide +kernel) (by decide +kernel)
theorem tw_390 : Cond.arrayClass .long ∈ Wd := wd_of 390 (by decide +kernel) (by decide +kernel)
theorem tw_483 : Cond.constantLong RX6 59 (-2) ∈ Wd := wd_of 483 (by decide +kernel) (by decide +kernel)
theorem tw_522 : Cond.constant RX9 304 (999999) ∈ Wd := wd_of 522 (by decide +kernel) (by decide +kernel)
theorem tw_769 : Cond.constantLong RX9 216 (-9223372036854775808) ∈ Wd := wd_of 769 (by decide +kernel) (by decide +kernel)
theorem tw_848 : Cond.constantLong RX5 28 (60) ∈ Wd := wd_of 848 (by decide +kernel) (by decide +kernel)
theorem tw_962 : Cond.classLink RL 10 RX10 ∈ Wd := wd_of 962 (by decide +kernel) (by decide +kernel)
theorem tw_963 : Cond.instantiable RX10 55 ∈ Wd := wd_of 963 (by decide +kernel) (by decide +kernel)
theorem tw_1150 : Cond.constant RX10 183 (999999) ∈ Wd := wd_of 1150 (by decide +kernel) (by decide +kernel)
theorem tw_1343 : Cond.constantLong RX10 299 (-9223372036854775808) ∈ Wd := wd_of 1343 (by decide +kernel) (by decide +kernel)
theorem tw_1460 : Cond.constantLong RL 132 (4294967295) ∈ Wd := wd_of 1460 (by decide +kernel) (by decide +kernel)
theorem tw_101 : Cond.instanceMethod objectInit ∈ Wd := wd_of 101 (by decide +kernel) (by decide +kernel)
theorem tw_755 : Cond.native arraycopyName ∈ Wd := wd_of 755 (by decide +kernel) (by decide +kernel)
theorem tw_754 : Cond.static arraycopyName ∈ Wd := wd_of 754 (by decide +kernel) (by decide +kernel)
theorem tw_oi : Cond.code objectInit ⟨#[0xb1]⟩ 1 none ∈ Wd := wd_of 102 (by decide +kernel) (by decide +kernel)
