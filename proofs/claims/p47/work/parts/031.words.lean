abbrev rJ6_compare_7cf53 : Room := { frames := 0, cells := 0, slots := 0, locals := 0 }
abbrev rX8_checkArgument : Room := { frames := 6, cells := 0, slots := 0, locals := 82 }
abbrev rX8_checkArgumentx : Room := { frames := 6, cells := 1, slots := 6, locals := 82 }
abbrev rX2_count : Room := { frames := 0, cells := 0, slots := 0, locals := 0 }
abbrev rX8_checkRoom : Room := { frames := 6, cells := 0, slots := 0, locals := 82 }
abbrev rX8_checkRoomx : Room := { frames := 6, cells := 1, slots := 6, locals := 82 }
abbrev rX8_at : Room := { frames := 0, cells := 0, slots := 0, locals := 0 }
abbrev rX8_put : Room := { frames := 0, cells := 0, slots := 0, locals := 0 }
abbrev rX2_open : Room := { frames := 1, cells := 0, slots := 0, locals := 22 }
abbrev rX2_push : Room := { frames := 2, cells := 0, slots := 0, locals := 45 }
abbrev rX8_append : Room := { frames := 7, cells := 0, slots := 0, locals := 104 }
abbrev rX8_appendx : Room := { frames := 7, cells := 1, slots := 6, locals := 104 }
abbrev rX8_checkIndex : Room := { frames := 6, cells := 0, slots := 0, locals := 82 }
abbrev rX8_checkIndexx : Room := { frames := 6, cells := 1, slots := 6, locals := 82 }
abbrev rX8_insert : Room := { frames := 7, cells := 0, slots := 0, locals := 104 }
abbrev rX8_insertx : Room := { frames := 7, cells := 1, slots := 6, locals := 104 }
abbrev rX2_letter : Room := { frames := 1, cells := 0, slots := 0, locals := 21 }
abbrev rX2_write : Room := { frames := 1, cells := 0, slots := 0, locals := 22 }
abbrev rX8_set : Room := { frames := 7, cells := 0, slots := 0, locals := 104 }
abbrev rX8_setx : Room := { frames := 7, cells := 1, slots := 6, locals := 104 }
abbrev rX2_take : Room := { frames := 1, cells := 0, slots := 0, locals := 22 }
abbrev rX8_remove : Room := { frames := 7, cells := 0, slots := 0, locals := 103 }
abbrev rX8_removex : Room := { frames := 7, cells := 1, slots := 6, locals := 103 }
abbrev rX2_empty : Room := { frames := 0, cells := 0, slots := 0, locals := 0 }
abbrev rX8_clear : Room := { frames := 1, cells := 0, slots := 0, locals := 20 }
abbrev rX2_turn : Room := { frames := 1, cells := 0, slots := 0, locals := 22 }
abbrev rX8_reverse : Room := { frames := 2, cells := 0, slots := 0, locals := 46 }
abbrev rX8_rotate : Room := { frames := 7, cells := 0, slots := 0, locals := 104 }
abbrev rX8_rotatex : Room := { frames := 7, cells := 1, slots := 6, locals := 104 }
abbrev rX8_checkPart : Room := { frames := 6, cells := 0, slots := 0, locals := 82 }
abbrev rX8_checkPartx : Room := { frames := 6, cells := 1, slots := 6, locals := 82 }
abbrev rX8_appendPart : Room := { frames := 7, cells := 0, slots := 0, locals := 104 }
abbrev rX8_appendPartx : Room := { frames := 7, cells := 1, slots := 6, locals := 104 }
abbrev rX4_power : Room := { frames := 0, cells := 0, slots := 0, locals := 0 }
abbrev rX3_begin : Room := { frames := 0, cells := 0, slots := 0, locals := 0 }
abbrev rX3_root : Room := { frames := 0, cells := 0, slots := 0, locals := 0 }
abbrev rX3_letter : Room := { frames := 0, cells := 0, slots := 0, locals := 0 }
abbrev rX8_pushFromWalk : Room := { frames := 3, cells := 0, slots := 0, locals := 66 }
abbrev rX3_pack : Room := { frames := 0, cells := 0, slots := 0, locals := 0 }
abbrev rX3_toNextWord : Room := { frames := 1, cells := 0, slots := 0, locals := 21 }
abbrev rX3_toNextNecklace : Room := { frames := 2, cells := 0, slots := 0, locals := 44 }
abbrev rX8_loadDeBruijn : Room := { frames := 7, cells := 0, slots := 0, locals := 104 }
abbrev rX8_loadDeBruijnx : Room := { frames := 7, cells := 1, slots := 6, locals := 104 }
abbrev rX4_moebius : Room := { frames := 0, cells := 0, slots := 0, locals := 0 }
abbrev rX4_lyndonCount : Room := { frames := 1, cells := 0, slots := 0, locals := 24 }
abbrev rX4_necklaceCount : Room := { frames := 2, cells := 0, slots := 0, locals := 48 }
abbrev rX8_loadNecklace : Room := { frames := 7, cells := 0, slots := 0, locals := 104 }
abbrev rX8_loadNecklacex : Room := { frames := 7, cells := 1, slots := 6, locals := 104 }
abbrev rX8_length : Room := { frames := 1, cells := 0, slots := 0, locals := 20 }
abbrev rX8_letterAt : Room := { frames := 7, cells := 0, slots := 0, locals := 103 }
abbrev rX8_letterAtx : Room := { frames := 7, cells := 1, slots := 6, locals := 103 }
abbrev rX2_countSame : Room := { frames := 1, cells := 0, slots := 0, locals := 21 }
abbrev rX8_compare : Room := { frames := 7, cells := 0, slots := 0, locals := 104 }
abbrev rX8_comparex : Room := { frames := 7, cells := 1, slots := 6, locals := 104 }
abbrev rX1_firstLength : Room := { frames := 2, cells := 0, slots := 0, locals := 42 }
abbrev rX1_isOneFactor : Room := { frames := 3, cells := 0, slots := 0, locals := 68 }
abbrev rX8_isLyndon : Room := { frames := 7, cells := 0, slots := 0, locals := 104 }
abbrev rX8_isLyndonx : Room := { frames := 7, cells := 1, slots := 6, locals := 104 }
abbrev rX1_find : Room := { frames := 3, cells := 0, slots := 0, locals := 68 }
abbrev rX1_count : Room := { frames := 0, cells := 0, slots := 0, locals := 0 }
abbrev rX8_factors : Room := { frames := 4, cells := 0, slots := 0, locals := 90 }
abbrev rX8_findFactor : Room := { frames := 7, cells := 0, slots := 0, locals := 103 }
abbrev rX8_findFactorx : Room := { frames := 7, cells := 1, slots := 6, locals := 103 }
abbrev rX1_start : Room := { frames := 1, cells := 0, slots := 0, locals := 21 }
abbrev rX8_factorStart : Room := { frames := 8, cells := 0, slots := 0, locals := 124 }
abbrev rX8_factorStartx : Room := { frames := 8, cells := 1, slots := 6, locals := 124 }
abbrev rX8_factorLength : Room := { frames := 8, cells := 0, slots := 0, locals := 124 }
abbrev rX8_factorLengthx : Room := { frames := 8, cells := 1, slots := 6, locals := 124 }
abbrev rX1_numberOver : Room := { frames := 1, cells := 0, slots := 0, locals := 21 }
abbrev rX8_factorOver : Room := { frames := 7, cells := 0, slots := 0, locals := 103 }
abbrev rX8_factorOverx : Room := { frames := 7, cells := 1, slots := 6, locals := 103 }
abbrev rX8_longestLyndon : Room := { frames := 7, cells := 0, slots := 0, locals := 103 }
abbrev rX8_longestLyndonx : Room := { frames := 7, cells := 1, slots := 6, locals := 103 }
abbrev rX8_standardFactor : Room := { frames := 7, cells := 0, slots := 0, locals := 104 }
abbrev rX8_standardFactorx : Room := { frames := 7, cells := 1, slots := 6, locals := 104 }
abbrev rX5_letter : Room := { frames := 2, cells := 0, slots := 0, locals := 42 }
abbrev rX5_difference : Room := { frames := 3, cells := 0, slots := 0, locals := 66 }
abbrev rX5_least : Room := { frames := 4, cells := 0, slots := 0, locals := 92 }
abbrev rX8_leastRotation : Room := { frames := 7, cells := 0, slots := 0, locals := 116 }
abbrev rX8_leastRotationx : Room := { frames := 7, cells := 1, slots := 6, locals := 116 }
abbrev rX5_greatest : Room := { frames := 4, cells := 0, slots := 0, locals := 92 }
abbrev rX8_greatestRotation : Room := { frames := 7, cells := 0, slots := 0, locals := 116 }
abbrev rX8_greatestRotationx : Room := { frames := 7, cells := 1, slots := 6, locals := 116 }
abbrev rX0_widened : Room := { frames := 2, cells := 0, slots := 0, locals := 42 }
abbrev rX0_longest : Room := { frames := 3, cells := 0, slots := 0, locals := 68 }
abbrev rX0_leastPeriod : Room := { frames := 4, cells := 0, slots := 0, locals := 92 }
abbrev rX0_rootSize : Room := { frames := 5, cells := 0, slots := 0, locals := 115 }
abbrev rX8_rotations : Room := { frames := 7, cells := 0, slots := 0, locals := 139 }
abbrev rX8_rotationsx : Room := { frames := 7, cells := 1, slots := 6, locals := 139 }
abbrev rX8_isNecklace : Room := { frames := 7, cells := 0, slots := 0, locals := 116 }
abbrev rX8_isNecklacex : Room := { frames := 7, cells := 1, slots := 6, locals := 116 }
abbrev rX8_period : Room := { frames := 7, cells := 0, slots := 0, locals := 115 }
abbrev rX8_periodx : Room := { frames := 7, cells := 1, slots := 6, locals := 115 }
abbrev rX2_keepsPeriod : Room := { frames := 1, cells := 0, slots := 0, locals := 21 }
abbrev rX2_firstPeriod : Room := { frames := 2, cells := 0, slots := 0, locals := 45 }
abbrev rX8_periodByTrying : Room := { frames := 7, cells := 0, slots := 0, locals := 104 }
abbrev rX8_periodByTryingx : Room := { frames := 7, cells := 1, slots := 6, locals := 104 }
abbrev rX8_isPeriod : Room := { frames := 7, cells := 0, slots := 0, locals := 104 }
abbrev rX8_isPeriodx : Room := { frames := 7, cells := 1, slots := 6, locals := 104 }
abbrev rX0_countAll : Room := { frames := 4, cells := 0, slots := 0, locals := 92 }
abbrev rX8_periods : Room := { frames := 7, cells := 0, slots := 0, locals := 117 }
abbrev rX8_periodsx : Room := { frames := 7, cells := 1, slots := 6, locals := 117 }
abbrev rX8_border : Room := { frames := 7, cells := 0, slots := 0, locals := 104 }
abbrev rX8_borderx : Room := { frames := 7, cells := 1, slots := 6, locals := 104 }
abbrev rX8_rootLength : Room := { frames := 7, cells := 0, slots := 0, locals := 139 }
abbrev rX8_rootLengthx : Room := { frames := 7, cells := 1, slots := 6, locals := 139 }
abbrev rX8_quotient : Room := { frames := 0, cells := 0, slots := 0, locals := 0 }
abbrev rX8_exponent : Room := { frames := 7, cells := 0, slots := 0, locals := 115 }
abbrev rX8_exponentx : Room := { frames := 7, cells := 1, slots := 6, locals := 115 }
abbrev rX6_findOne : Room := { frames := 3, cells := 0, slots := 0, locals := 68 }
abbrev rX6_find : Room := { frames := 4, cells := 0, slots := 0, locals := 92 }
abbrev rX6_count : Room := { frames := 0, cells := 0, slots := 0, locals := 0 }
abbrev rX8_runs : Room := { frames := 5, cells := 0, slots := 0, locals := 115 }
abbrev rX8_findRun : Room := { frames := 7, cells := 0, slots := 0, locals := 115 }
abbrev rX8_findRunx : Room := { frames := 7, cells := 1, slots := 6, locals := 115 }
abbrev rX6_start : Room := { frames := 1, cells := 0, slots := 0, locals := 21 }
abbrev rX8_runStart : Room := { frames := 8, cells := 0, slots := 0, locals := 136 }
abbrev rX8_runStartx : Room := { frames := 8, cells := 1, slots := 6, locals := 136 }
abbrev rX6_end : Room := { frames := 1, cells := 0, slots := 0, locals := 21 }
abbrev rX8_runEnd : Room := { frames := 8, cells := 0, slots := 0, locals := 136 }
abbrev rX8_runEndx : Room := { frames := 8, cells := 1, slots := 6, locals := 136 }
abbrev rX6_leastPeriod : Room := { frames := 1, cells := 0, slots := 0, locals := 21 }
abbrev rX8_runPeriod : Room := { frames := 8, cells := 0, slots := 0, locals := 136 }
abbrev rX8_runPeriodx : Room := { frames := 8, cells := 1, slots := 6, locals := 136 }
abbrev rX8_runsOver : Room := { frames := 7, cells := 0, slots := 0, locals := 115 }
abbrev rX8_runsOverx : Room := { frames := 7, cells := 1, slots := 6, locals := 115 }
abbrev rX6_size : Room := { frames := 1, cells := 0, slots := 0, locals := 21 }
abbrev rX8_squares : Room := { frames := 5, cells := 0, slots := 0, locals := 115 }
abbrev rX7_isLess : Room := { frames := 2, cells := 0, slots := 0, locals := 42 }
abbrev rX7_putInOrder : Room := { frames := 3, cells := 0, slots := 0, locals := 66 }
abbrev rX7_find : Room := { frames := 4, cells := 0, slots := 0, locals := 90 }
abbrev rX7_rank : Room := { frames := 1, cells := 0, slots := 0, locals := 21 }
abbrev rX8_suffixAt : Room := { frames := 7, cells := 0, slots := 0, locals := 112 }
abbrev rX8_suffixAtx : Room := { frames := 7, cells := 1, slots := 6, locals := 112 }
abbrev rX8_rankOf : Room := { frames := 7, cells := 0, slots := 0, locals := 112 }
abbrev rX8_rankOfx : Room := { frames := 7, cells := 1, slots := 6, locals := 112 }
abbrev rL_low : Room := { frames := 0, cells := 0, slots := 0, locals := 0 }
abbrev rL_append : Room := { frames := 8, cells := 0, slots := 0, locals := 125 }
abbrev rL_appendx : Room := { frames := 8, cells := 1, slots := 6, locals := 125 }
abbrev rL_insert : Room := { frames := 8, cells := 0, slots := 0, locals := 126 }
abbrev rL_insertx : Room := { frames := 8, cells := 1, slots := 6, locals := 126 }
abbrev rL_set : Room := { frames := 8, cells := 0, slots := 0, locals := 127 }
abbrev rL_setx : Room := { frames := 8, cells := 1, slots := 6, locals := 127 }
abbrev rL_remove : Room := { frames := 8, cells := 0, slots := 0, locals := 124 }
abbrev rL_removex : Room := { frames := 8, cells := 1, slots := 6, locals := 124 }
abbrev rL_rotate : Room := { frames := 8, cells := 0, slots := 0, locals := 127 }
abbrev rL_rotatex : Room := { frames := 8, cells := 1, slots := 6, locals := 127 }
abbrev rL_copy : Room := { frames := 8, cells := 0, slots := 0, locals := 127 }
abbrev rL_copyx : Room := { frames := 8, cells := 1, slots := 6, locals := 127 }
abbrev rL_deBruijn : Room := { frames := 8, cells := 0, slots := 0, locals := 128 }
abbrev rL_deBruijnx : Room := { frames := 8, cells := 1, slots := 6, locals := 128 }
abbrev rL_necklace : Room := { frames := 8, cells := 0, slots := 0, locals := 128 }
abbrev rL_necklacex : Room := { frames := 8, cells := 1, slots := 6, locals := 128 }
abbrev rL_act : Room := { frames := 9, cells := 0, slots := 0, locals := 152 }
abbrev rL_actx : Room := { frames := 9, cells := 1, slots := 6, locals := 152 }
abbrev rL_areAlike : Room := { frames := 8, cells := 0, slots := 0, locals := 135 }
abbrev rL_areFactorsSo : Room := { frames := 9, cells := 0, slots := 0, locals := 145 }
abbrev rL_isPartSo : Room := { frames := 8, cells := 0, slots := 0, locals := 161 }
abbrev rL_areSuffixesSo : Room := { frames := 9, cells := 0, slots := 0, locals := 145 }
abbrev rL_areRunsSo : Room := { frames := 9, cells := 0, slots := 0, locals := 157 }
def w_0none (q : Nat → Nat) (cI cJ cD : ClassId) : va_W := []
def w_0_1 (q : Nat → Nat) (cI cJ cD : ClassId) (Tn : Int32) : va_W := [(q 0, .inr (6, [.ref (q 1), .ref (q 3), .ref (q 5), .ref (q 7), .ref (q 11), .ref (q 13)])), (q 1, .inr (2, [.ref (q 2), .int Tn]))]
def w_0_1_2 (q : Nat → Nat) (cI cJ cD : ClassId) (Tn : Int32) (Ta : (Nat → Int32)) : va_W := [(q 0, .inr (6, [.ref (q 1), .ref (q 3), .ref (q 5), .ref (q 7), .ref (q 11), .ref (q 13)])), (q 1, .inr (2, [.ref (q 2), .int Tn])), (q 2, .inl (cI, 64, .inl Ta))]
def w_0_1_2_3_4 (q : Nat → Nat) (cI cJ cD : ClassId) (Tn : Int32) (Ta : (Nat → Int32)) (Fn : Int32) (Fa : (Nat → Int32)) : va_W := [(q 0, .inr (6, [.ref (q 1), .ref (q 3), .ref (q 5), .ref (q 7), .ref (q 11), .ref (q 13)])), (q 1, .inr (2, [.ref (q 2), .int Tn])), (q 2, .inl (cI, 64, .inl Ta)), (q 3, .inr (1, [.ref (q 4), .int Fn])), (q 4, .inl (cI, 65, .inl Fa))]
def w_0_1_2_3_4_7_8_9_10_14_15_16_17_18_21_22_23_24 (q : Nat → Nat) (cI cJ cD : ClassId) (Tn : Int32) (Ta : (Nat → Int32)) (Fn : Int32) (Fa : (Nat → Int32)) (Rn : Int32) (Ra : (Nat → Int32)) (Rb : (Nat → Int32)) (Rd : (Nat → Int32)) (QTn : Int32) (QTa : (Nat → Int32)) (QFn : Int32) (QFa : (Nat → Int32)) (QRn : Int32) (QRa : (Nat → Int32)) (QRb : (Nat → Int32)) (QRd : (Nat → Int32)) : va_W := [(q 0, .inr (6, [.ref (q 1), .ref (q 3), .ref (q 5), .ref (q 7), .ref (q 11), .ref (q 13)])), (q 1, .inr (2, [.ref (q 2), .int Tn])), (q 2, .inl (cI, 64, .inl Ta)), (q 3, .inr (1, [.ref (q 4), .int Fn])), (q 4, .inl (cI, 65, .inl Fa)), (q 7, .inr (4, [.ref (q 8), .ref (q 9), .ref (q 10), .int Rn])), (q 8, .inl (cI, 64, .inl Ra)), (q 9, .inl (cI, 64, .inl Rb)), (q 10, .inl (cI, 64, .inl Rd)), (q 14, .inr (6, [.ref (q 15), .ref (q 17), .ref (q 19), .ref (q 21), .ref (q 25), .ref (q 27)])), (q 15, .inr (2, [.ref (q 16), .int QTn])), (q 16, .inl (cI, 64, .inl QTa)), (q 17, .inr (1, [.ref (q 18), .int QFn])), (q 18, .inl (cI, 65, .inl QFa)), (q 21, .inr (4, [.ref (q 22), .ref (q 23), .ref (q 24), .int QRn])), (q 22, .inl (cI, 64, .inl QRa)), (q 23, .inl (cI, 64, .inl QRb)), (q 24, .inl (cI, 64, .inl QRd))]
def w_0_1_2_3_4_11_12 (q : Nat → Nat) (cI cJ cD : ClassId) (Tn : Int32) (Ta : (Nat → Int32)) (Fn : Int32) (Fa : (Nat → Int32)) (Ua : (Nat → Int32)) : va_W := [(q 0, .inr (6, [.ref (q 1), .ref (q 3), .ref (q 5), .ref (q 7), .ref (q 11), .ref (q 13)])), (q 1, .inr (2, [.ref (q 2), .int Tn])), (q 2, .inl (cI, 64, .inl Ta)), (q 3, .inr (1, [.ref (q 4), .int Fn])), (q 4, .inl (cI, 65, .inl Fa)), (q 11, .inr (5, [.ref (q 12)])), (q 12, .inl (cI, 65, .inl Ua))]
def w_0_1_2_5_6 (q : Nat → Nat) (cI cJ cD : ClassId) (Tn : Int32) (Ta : (Nat → Int32)) (Ba : (Nat → Int32)) : va_W := [(q 0, .inr (6, [.ref (q 1), .ref (q 3), .ref (q 5), .ref (q 7), .ref (q 11), .ref (q 13)])), (q 1, .inr (2, [.ref (q 2), .int Tn])), (q 2, .inl (cI, 64, .inl Ta)), (q 5, .inr (0, [.ref (q 6)])), (q 6, .inl (cI, 65, .inl Ba))]
def w_0_1_2_5_6_7_8_9_10 (q : Nat → Nat) (cI cJ cD : ClassId) (Tn : Int32) (Ta : (Nat → Int32)) (Ba : (Nat → Int32)) (Rn : Int32) (Ra : (Nat → Int32)) (Rb : (Nat → Int32)) (Rd : (Nat → Int32)) : va_W := [(q 0, .inr (6, [.ref (q 1), .ref (q 3), .ref (q 5), .ref (q 7), .ref (q 11), .ref (q 13)])), (q 1, .inr (2, [.ref (q 2), .int Tn])), (q 2, .inl (cI, 64, .inl Ta)), (q 5, .inr (0, [.ref (q 6)])), (q 6, .inl (cI, 65, .inl Ba)), (q 7, .inr (4, [.ref (q 8), .ref (q 9), .ref (q 10), .int Rn])), (q 8, .inl (cI, 64, .inl Ra)), (q 9, .inl (cI, 64, .inl Rb)), (q 10, .inl (cI, 64, .inl Rd))]
def w_0_1_2_7_8_9_10 (q : Nat → Nat) (cI cJ cD : ClassId) (Tn : Int32) (Ta : (Nat → Int32)) (Rn : Int32) (Ra : (Nat → Int32)) (Rb : (Nat → Int32)) (Rd : (Nat → Int32)) : va_W := [(q 0, .inr (6, [.ref (q 1), .ref (q 3), .ref (q 5), .ref (q 7), .ref (q 11), .ref (q 13)])), (q 1, .inr (2, [.ref (q 2), .int Tn])), (q 2, .inl (cI, 64, .inl Ta)), (q 7, .inr (4, [.ref (q 8), .ref (q 9), .ref (q 10), .int Rn])), (q 8, .inl (cI, 64, .inl Ra)), (q 9, .inl (cI, 64, .inl Rb)), (q 10, .inl (cI, 64, .inl Rd))]
def w_0_1_2_11_12 (q : Nat → Nat) (cI cJ cD : ClassId) (Tn : Int32) (Ta : (Nat → Int32)) (Ua : (Nat → Int32)) : va_W := [(q 0, .inr (6, [.ref (q 1), .ref (q 3), .ref (q 5), .ref (q 7), .ref (q 11), .ref (q 13)])), (q 1, .inr (2, [.ref (q 2), .int Tn])), (q 2, .inl (cI, 64, .inl Ta)), (q 11, .inr (5, [.ref (q 12)])), (q 12, .inl (cI, 65, .inl Ua))]
def w_0_1_2_13 (q : Nat → Nat) (cI cJ cD : ClassId) (Tn : Int32) (Ta : (Nat → Int32)) (Wg : Int32) (Wz : Int32) (Ww : Int32) (Wr : Int32) : va_W := [(q 0, .inr (6, [.ref (q 1), .ref (q 3), .ref (q 5), .ref (q 7), .ref (q 11), .ref (q 13)])), (q 1, .inr (2, [.ref (q 2), .int Tn])), (q 2, .inl (cI, 64, .inl Ta)), (q 13, .inr (3, [.int Wg, .int Wz, .int Ww, .int Wr]))]
def w_1 (q : Nat → Nat) (cI cJ cD : ClassId) (Tn : Int32) : va_W := [(q 1, .inr (2, [.ref (q 2), .int Tn]))]
def w_1_2 (q : Nat → Nat) (cI cJ cD : ClassId) (Tn : Int32) (Ta : (Nat → Int32)) : va_W := [(q 1, .inr (2, [.ref (q 2), .int Tn])), (q 2, .inl (cI, 64, .inl Ta))]
def w_1_2_3_4 (q : Nat → Nat) (cI cJ cD : ClassId) (Tn : Int32) (Ta : (Nat → Int32)) (Fn : Int32) (Fa : (Nat → Int32)) : va_W := [(q 1, .inr (2, [.ref (q 2), .int Tn])), (q 2, .inl (cI, 64, .inl Ta)), (q 3, .inr (1, [.ref (q 4), .int Fn])), (q 4, .inl (cI, 65, .inl Fa))]
def w_1_2_5_6 (q : Nat → Nat) (cI cJ cD : ClassId) (Tn : Int32) (Ta : (Nat → Int32)) (Ba : (Nat → Int32)) : va_W := [(q 1, .inr (2, [.ref (q 2), .int Tn])), (q 2, .inl (cI, 64, .inl Ta)), (q 5, .inr (0, [.ref (q 6)])), (q 6, .inl (cI, 65, .inl Ba))]
def w_1_2_7_8_9_10 (q : Nat → Nat) (cI cJ cD : ClassId) (Tn : Int32) (Ta : (Nat → Int32)) (Rn : Int32) (Ra : (Nat → Int32)) (Rb : (Nat → Int32)) (Rd : (Nat → Int32)) : va_W := [(q 1, .inr (2, [.ref (q 2), .int Tn])), (q 2, .inl (cI, 64, .inl Ta)), (q 7, .inr (4, [.ref (q 8), .ref (q 9), .ref (q 10), .int Rn])), (q 8, .inl (cI, 64, .inl Ra)), (q 9, .inl (cI, 64, .inl Rb)), (q 10, .inl (cI, 64, .inl Rd))]
def w_1_2_11_12 (q : Nat → Nat) (cI cJ cD : ClassId) (Tn : Int32) (Ta : (Nat → Int32)) (Ua : (Nat → Int32)) : va_W := [(q 1, .inr (2, [.ref (q 2), .int Tn])), (q 2, .inl (cI, 64, .inl Ta)), (q 11, .inr (5, [.ref (q 12)])), (q 12, .inl (cI, 65, .inl Ua))]
def w_3 (q : Nat → Nat) (cI cJ cD : ClassId) (Fn : Int32) : va_W := [(q 3, .inr (1, [.ref (q 4), .int Fn]))]
def w_3_4 (q : Nat → Nat) (cI cJ cD : ClassId) (Fn : Int32) (Fa : (Nat → Int32)) : va_W := [(q 3, .inr (1, [.ref (q 4), .int Fn])), (q 4, .inl (cI, 65, .inl Fa))]
def w_7 (q : Nat → Nat) (cI cJ cD : ClassId) (Rn : Int32) : va_W := [(q 7, .inr (4, [.ref (q 8), .ref (q 9), .ref (q 10), .int Rn]))]
def w_7_8 (q : Nat → Nat) (cI cJ cD : ClassId) (Rn : Int32) (Ra : (Nat → Int32)) : va_W := [(q 7, .inr (4, [.ref (q 8), .ref (q 9), .ref (q 10), .int Rn])), (q 8, .inl (cI, 64, .inl Ra))]
def w_7_8_9 (q : Nat → Nat) (cI cJ cD : ClassId) (Rn : Int32) (Ra : (Nat → Int32)) (Rb : (Nat → Int32)) : va_W := [(q 7, .inr (4, [.ref (q 8), .ref (q 9), .ref (q 10), .int Rn])), (q 8, .inl (cI, 64, .inl Ra)), (q 9, .inl (cI, 64, .inl Rb))]
def w_7_9 (q : Nat → Nat) (cI cJ cD : ClassId) (Rn : Int32) (Rb : (Nat → Int32)) : va_W := [(q 7, .inr (4, [.ref (q 8), .ref (q 9), .ref (q 10), .int Rn])), (q 9, .inl (cI, 64, .inl Rb))]
def w_7_10 (q : Nat → Nat) (cI cJ cD : ClassId) (Rn : Int32) (Rd : (Nat → Int32)) : va_W := [(q 7, .inr (4, [.ref (q 8), .ref (q 9), .ref (q 10), .int Rn])), (q 10, .inl (cI, 64, .inl Rd))]
def w_11_12 (q : Nat → Nat) (cI cJ cD : ClassId) (Ua : (Nat → Int32)) : va_W := [(q 11, .inr (5, [.ref (q 12)])), (q 12, .inl (cI, 65, .inl Ua))]
def w_13 (q : Nat → Nat) (cI cJ cD : ClassId) (Wg : Int32) (Wz : Int32) (Ww : Int32) (Wr : Int32) : va_W := [(q 13, .inr (3, [.int Wg, .int Wz, .int Ww, .int Wr]))]
def w_G (q : Nat → Nat) (cI : ClassId) (gk gn : Nat) (gf : Nat → Int32) : va_W := [(q gk, .inl (cI, gn, .inl gf))]
set_option maxRecDepth 20000 in
theorem gw_X8_checkArgument_10 : ∀ w ∈ (vx_atS RX8 111 "java/lang/IllegalArgumentException" ["java/lang/RuntimeException", "java/lang/Exception"]).filter goodWord, w ∈ wsX8_checkArgument := by decide +kernel
set_option maxRecDepth 20000 in
theorem gwB_X8_checkArgument_10 : ∀ w ∈ (vx_atS RX8 111 "java/lang/IllegalArgumentException" ["java/lang/RuntimeException", "java/lang/Exception"]).filter (fun w => !goodWord w), w ∈ gB "java/lang/IllegalArgumentException" := by decide +kernel
set_option maxRecDepth 20000 in
theorem gwg_X8_checkArgument_10 : ∀ w ∈ Cond.classLink RX8 107 "java/lang/IllegalArgumentException" :: Cond.initialized "java/lang/IllegalArgumentException" :: (vx_atS RX8 111 "java/lang/IllegalArgumentException" ["java/lang/RuntimeException", "java/lang/Exception"]), vx_ot w = true := List.all_eq_true.mp (by decide +kernel)
set_option maxRecDepth 20000 in
theorem gw_X8_checkRoom_14 : ∀ w ∈ (vx_atS RX8 93 "java/lang/IllegalStateException" ["java/lang/RuntimeException", "java/lang/Exception"]).filter goodWord, w ∈ wsX8_checkRoom := by decide +kernel
set_option maxRecDepth 20000 in
theorem gwB_X8_checkRoom_14 : ∀ w ∈ (vx_atS RX8 93 "java/lang/IllegalStateException" ["java/lang/RuntimeException", "java/lang/Exception"]).filter (fun w => !goodWord w), w ∈ gB "java/lang/IllegalStateException" := by decide +kernel
set_option maxRecDepth 20000 in
theorem gwg_X8_checkRoom_14 : ∀ w ∈ Cond.classLink RX8 89 "java/lang/IllegalStateException" :: Cond.initialized "java/lang/IllegalStateException" :: (vx_atS RX8 93 "java/lang/IllegalStateException" ["java/lang/RuntimeException", "java/lang/Exception"]), vx_ot w = true := List.all_eq_true.mp (by decide +kernel)
set_option maxRecDepth 20000 in
theorem gw_X8_checkIndex_9 : ∀ w ∈ (vx_atS RX8 236 "java/lang/IndexOutOfBoundsException" ["java/lang/RuntimeException", "java/lang/Exception"]).filter goodWord, w ∈ wsX8_checkIndex := by decide +kernel
set_option maxRecDepth 20000 in
theorem gwB_X8_checkIndex_9 : ∀ w ∈ (vx_atS RX8 236 "java/lang/IndexOutOfBoundsException" ["java/lang/RuntimeException", "java/lang/Exception"]).filter (fun w => !goodWord w), w ∈ gB "java/lang/IndexOutOfBoundsException" := by decide +kernel
set_option maxRecDepth 20000 in
theorem gwg_X8_checkIndex_9 : ∀ w ∈ Cond.classLink RX8 232 "java/lang/IndexOutOfBoundsException" :: Cond.initialized "java/lang/IndexOutOfBoundsException" :: (vx_atS RX8 236 "java/lang/IndexOutOfBoundsException" ["java/lang/RuntimeException", "java/lang/Exception"]), vx_ot w = true := List.all_eq_true.mp (by decide +kernel)
set_option maxRecDepth 20000 in
theorem gw_X8_rotate_19 : ∀ w ∈ (vx_atS RX8 93 "java/lang/IllegalStateException" ["java/lang/RuntimeException", "java/lang/Exception"]).filter goodWord, w ∈ wsX8_rotate := by decide +kernel
set_option maxRecDepth 20000 in
theorem gwB_X8_rotate_19 : ∀ w ∈ (vx_atS RX8 93 "java/lang/IllegalStateException" ["java/lang/RuntimeException", "java/lang/Exception"]).filter (fun w => !goodWord w), w ∈ gB "java/lang/IllegalStateException" := by decide +kernel
set_option maxRecDepth 20000 in
theorem gwg_X8_rotate_19 : ∀ w ∈ Cond.classLink RX8 89 "java/lang/IllegalStateException" :: Cond.initialized "java/lang/IllegalStateException" :: (vx_atS RX8 93 "java/lang/IllegalStateException" ["java/lang/RuntimeException", "java/lang/Exception"]), vx_ot w = true := List.all_eq_true.mp (by decide +kernel)
set_option maxRecDepth 20000 in
theorem gw_X8_checkPart_20 : ∀ w ∈ (vx_atS RX8 236 "java/lang/IndexOutOfBoundsException" ["java/lang/RuntimeException", "java/lang/Exception"]).filter goodWord, w ∈ wsX8_checkPart := by decide +kernel
set_option maxRecDepth 20000 in
theorem gwB_X8_checkPart_20 : ∀ w ∈ (vx_atS RX8 236 "java/lang/IndexOutOfBoundsException" ["java/lang/RuntimeException", "java/lang/Exception"]).filter (fun w => !goodWord w), w ∈ gB "java/lang/IndexOutOfBoundsException" := by decide +kernel
set_option maxRecDepth 20000 in
theorem gwg_X8_checkPart_20 : ∀ w ∈ Cond.classLink RX8 232 "java/lang/IndexOutOfBoundsException" :: Cond.initialized "java/lang/IndexOutOfBoundsException" :: (vx_atS RX8 236 "java/lang/IndexOutOfBoundsException" ["java/lang/RuntimeException", "java/lang/Exception"]), vx_ot w = true := List.all_eq_true.mp (by decide +kernel)
set_option maxRecDepth 20000 in
theorem gw_X8_loadDeBruijn_26 : ∀ w ∈ (vx_atS RX8 111 "java/lang/IllegalArgumentException" ["java/lang/RuntimeException", "java/lang/Exception"]).filter goodWord, w ∈ wsX8_loadDeBruijn := by decide +kernel
set_option maxRecDepth 20000 in
theorem gwB_X8_loadDeBruijn_26 : ∀ w ∈ (vx_atS RX8 111 "java/lang/IllegalArgumentException" ["java/lang/RuntimeException", "java/lang/Exception"]).filter (fun w => !goodWord w), w ∈ gB "java/lang/IllegalArgumentException" := by decide +kernel
set_option maxRecDepth 20000 in
theorem gwg_X8_loadDeBruijn_26 : ∀ w ∈ Cond.classLink RX8 107 "java/lang/IllegalArgumentException" :: Cond.initialized "java/lang/IllegalArgumentException" :: (vx_atS RX8 111 "java/lang/IllegalArgumentException" ["java/lang/RuntimeException", "java/lang/Exception"]), vx_ot w = true := List.all_eq_true.mp (by decide +kernel)
set_option maxRecDepth 20000 in
theorem gw_X8_loadNecklace_28 : ∀ w ∈ (vx_atS RX8 111 "java/lang/IllegalArgumentException" ["java/lang/RuntimeException", "java/lang/Exception"]).filter goodWord, w ∈ wsX8_loadNecklace := by decide +kernel
set_option maxRecDepth 20000 in
theorem gwB_X8_loadNecklace_28 : ∀ w ∈ (vx_atS RX8 111 "java/lang/IllegalArgumentException" ["java/lang/RuntimeException", "java/lang/Exception"]).filter (fun w => !goodWord w), w ∈ gB "java/lang/IllegalArgumentException" := by decide +kernel
set_option maxRecDepth 20000 in
theorem gwg_X8_loadNecklace_28 : ∀ w ∈ Cond.classLink RX8 107 "java/lang/IllegalArgumentException" :: Cond.initialized "java/lang/IllegalArgumentException" :: (vx_atS RX8 111 "java/lang/IllegalArgumentException" ["java/lang/RuntimeException", "java/lang/Exception"]), vx_ot w = true := List.all_eq_true.mp (by decide +kernel)
set_option maxRecDepth 20000 in
theorem gw_X8_standardFactor_25 : ∀ w ∈ (vx_atS RX8 93 "java/lang/IllegalStateException" ["java/lang/RuntimeException", "java/lang/Exception"]).filter goodWord, w ∈ wsX8_standardFactor := by decide +kernel
set_option maxRecDepth 20000 in
theorem gwB_X8_standardFactor_25 : ∀ w ∈ (vx_atS RX8 93 "java/lang/IllegalStateException" ["java/lang/RuntimeException", "java/lang/Exception"]).filter (fun w => !goodWord w), w ∈ gB "java/lang/IllegalStateException" := by decide +kernel
set_option maxRecDepth 20000 in
theorem gwg_X8_standardFactor_25 : ∀ w ∈ Cond.classLink RX8 89 "java/lang/IllegalStateException" :: Cond.initialized "java/lang/IllegalStateException" :: (vx_atS RX8 93 "java/lang/IllegalStateException" ["java/lang/RuntimeException", "java/lang/Exception"]), vx_ot w = true := List.all_eq_true.mp (by decide +kernel)
