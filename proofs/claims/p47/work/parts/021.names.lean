def wsL_areAlike : List Cond := .code yL_areAlike cL_areAlike 4 (some .boolean) :: ((wsL_areAlike_r1 ++ (wsL_areAlike_r2 ++ (wsL_areAlike_r3 ++ wsL_areAlike_r4))) ++ wsX80 ++ wsX20 ++ wsX10 ++ wsX60 ++ (vx_atS RX8 236 "java/lang/IndexOutOfBoundsException" ["java/lang/RuntimeException", "java/lang/Exception"]).filter goodWord)
def wsL_areFactorsSo_r1 : List Cond := [Cond.methodLink RL 81 yX8_factors, Cond.instanceMethod yX8_factors, Cond.selects RX8 yX8_factors yX8_factors, Cond.initialized RX8, Cond.code yX8_factors cX8_factors 1 (some .int), Cond.fieldLink RX8 19 "LyndonText" "factorRow" "LLyndonText$Factors;", Cond.fieldLink RX8 10 "LyndonText" "text" "LLyndonText$Letters;", Cond.methodLink RX8 148 yX1_find, Cond.instanceMethod yX1_find, Cond.selects RX1 yX1_find yX1_find, Cond.initialized RX1, Cond.code yX1_find cX1_find 3 none, Cond.fieldLink RX1 15 "LyndonText$Factors" "count" "I", Cond.fieldLink RX1 9 "LyndonText$Factors" "starts" "[I", Cond.methodLink RX1 23 yX2_count, Cond.instanceMethod yX2_count, Cond.selects RX2 yX2_count yX2_count, Cond.initialized RX2, Cond.code yX2_count cX2_count 1 (some .int), Cond.fieldLink RX2 15 "LyndonText$Letters" "count" "I", Cond.static yX8_put, Cond.code yX8_put cX8_put 3 none, Cond.methodLink RX1 32 yX1_firstLength, Cond.static yX1_firstLength]
def wsL_areFactorsSo_r2 : List Cond := [Cond.code yX1_firstLength cX1_firstLength 7 (some .int), Cond.methodLink RX1 36 yX2_letter, Cond.instanceMethod yX2_letter, Cond.selects RX2 yX2_letter yX2_letter, Cond.code yX2_letter cX2_letter 2 (some .int), Cond.fieldLink RX2 9 "LyndonText$Letters" "row" "[I", Cond.static yX8_at, Cond.code yX8_at cX8_at 2 (some .int), Cond.methodLink RX8 152 yX1_count, Cond.instanceMethod yX1_count, Cond.selects RX1 yX1_count yX1_count, Cond.code yX1_count cX1_count 1 (some .int), Cond.methodLink RL 90 yX8_factorLength, Cond.instanceMethod yX8_factorLength, Cond.selects RX8 yX8_factorLength yX8_factorLength, Cond.code yX8_factorLength cX8_factorLength 2 (some .int), Cond.methodLink RX8 153 yX8_findFactor, Cond.instanceMethod yX8_findFactor, Cond.selects RX8 yX8_findFactor yX8_findFactor, Cond.code yX8_findFactor cX8_findFactor 2 none, Cond.methodLink RX8 66 yX8_checkIndex, Cond.static yX8_checkIndex, Cond.code yX8_checkIndex cX8_checkIndex 2 none, Cond.classLink RX8 232 "java/lang/IndexOutOfBoundsException"]
def wsL_areFactorsSo_r3 : List Cond := [Cond.initialized "java/lang/IndexOutOfBoundsException", Cond.methodLink RX8 156 yX1_start, Cond.instanceMethod yX1_start, Cond.selects RX1 yX1_start yX1_start, Cond.code yX1_start cX1_start 2 (some .int), Cond.methodLink RL 93 yX8_factorStart, Cond.instanceMethod yX8_factorStart, Cond.selects RX8 yX8_factorStart yX8_factorStart, Cond.code yX8_factorStart cX8_factorStart 2 (some .int), Cond.methodLink RL 96 yX8_isLyndon, Cond.instanceMethod yX8_isLyndon, Cond.selects RX8 yX8_isLyndon yX8_isLyndon, Cond.code yX8_isLyndon cX8_isLyndon 3 (some .boolean), Cond.methodLink RX8 96 yX8_checkPart, Cond.instanceMethod yX8_checkPart, Cond.selects RX8 yX8_checkPart yX8_checkPart, Cond.code yX8_checkPart cX8_checkPart 3 none, Cond.methodLink RX8 62 yX2_count, Cond.methodLink RX8 144 yX1_isOneFactor, Cond.static yX1_isOneFactor, Cond.code yX1_isOneFactor cX1_isOneFactor 3 (some .boolean), Cond.methodLink RL 100 yX8_longestLyndon, Cond.instanceMethod yX8_longestLyndon, Cond.selects RX8 yX8_longestLyndon yX8_longestLyndon]
def wsL_areFactorsSo_r4 : List Cond := [Cond.code yX8_longestLyndon cX8_longestLyndon 3 (some .int), Cond.methodLink RX8 162 yX1_firstLength, Cond.methodLink RL 104 yX8_factorOver, Cond.instanceMethod yX8_factorOver, Cond.selects RX8 yX8_factorOver yX8_factorOver, Cond.code yX8_factorOver cX8_factorOver 2 (some .int), Cond.methodLink RX8 159 yX1_numberOver, Cond.instanceMethod yX1_numberOver, Cond.selects RX1 yX1_numberOver yX1_numberOver, Cond.code yX1_numberOver cX1_numberOver 3 (some .int), Cond.methodLink RL 107 yX8_compare, Cond.instanceMethod yX8_compare, Cond.selects RX8 yX8_compare yX8_compare, Cond.code yX8_compare cX8_compare 7 (some .int), Cond.methodLink RX8 130 Lib.Math.min.name, Cond.static Lib.Math.min.name, Cond.initialized "java/lang/Math", Cond.code Lib.Math.min.name Lib.Math.min.code 2 (some .int), Cond.methodLink RX8 136 yX2_countSame, Cond.instanceMethod yX2_countSame, Cond.selects RX2 yX2_countSame yX2_countSame, Cond.code yX2_countSame cX2_countSame 5 (some .int), Cond.methodLink RX2 31 Lib.Math.max.name, Cond.static Lib.Math.max.name]
def wsL_areFactorsSo_r5 : List Cond := [Cond.code Lib.Math.max.name Lib.Math.max.code 2 (some .int), Cond.methodLink RX8 73 yX2_letter, Cond.methodLink RX8 139 yJ6_compare_7cf53, Cond.static yJ6_compare_7cf53, Cond.initialized RJ6, Cond.code yJ6_compare_7cf53 cJ6_compare_7cf53 2 (some .int), Cond.methodLink RL 49 yX8_length, Cond.instanceMethod yX8_length, Cond.selects RX8 yX8_length yX8_length, Cond.code yX8_length cX8_length 1 (some .int)]
def wsL_areFactorsSo : List Cond := .code yL_areFactorsSo cL_areFactorsSo 5 (some .boolean) :: ((wsL_areFactorsSo_r1 ++ (wsL_areFactorsSo_r2 ++ (wsL_areFactorsSo_r3 ++ (wsL_areFactorsSo_r4 ++ wsL_areFactorsSo_r5)))) ++ wsX80 ++ wsX10 ++ wsX20 ++ (vx_atS RX8 236 "java/lang/IndexOutOfBoundsException" ["java/lang/RuntimeException", "java/lang/Exception"]).filter goodWord)
def wsL_isPartSo_r1 : List Cond := [Cond.methodLink RL 111 yX8_period, Cond.instanceMethod yX8_period, Cond.selects RX8 yX8_period yX8_period, Cond.initialized RX8, Cond.code yX8_period cX8_period 3 (some .int), Cond.fieldLink RX8 26 "LyndonText" "borderRow" "LLyndonText$Borders;", Cond.fieldLink RX8 10 "LyndonText" "text" "LLyndonText$Letters;", Cond.methodLink RX8 96 yX8_checkPart, Cond.instanceMethod yX8_checkPart, Cond.selects RX8 yX8_checkPart yX8_checkPart, Cond.code yX8_checkPart cX8_checkPart 3 none, Cond.classLink RX8 232 "java/lang/IndexOutOfBoundsException", Cond.initialized "java/lang/IndexOutOfBoundsException", Cond.methodLink RX8 62 yX2_count, Cond.instanceMethod yX2_count, Cond.selects RX2 yX2_count yX2_count, Cond.initialized RX2, Cond.code yX2_count cX2_count 1 (some .int), Cond.fieldLink RX2 15 "LyndonText$Letters" "count" "I", Cond.methodLink RX8 180 yX0_leastPeriod, Cond.instanceMethod yX0_leastPeriod, Cond.selects RX0 yX0_leastPeriod yX0_leastPeriod, Cond.initialized RX0, Cond.code yX0_leastPeriod cX0_leastPeriod 4 (some .int)]
def wsL_isPartSo_r2 : List Cond := [Cond.methodLink RX0 33 yX0_longest, Cond.instanceMethod yX0_longest, Cond.selects RX0 yX0_longest yX0_longest, Cond.code yX0_longest cX0_longest 5 (some .int), Cond.fieldLink RX0 9 "LyndonText$Borders" "row" "[I", Cond.static yX8_put, Cond.code yX8_put cX8_put 3 none, Cond.methodLink RX0 19 yX0_widened, Cond.instanceMethod yX0_widened, Cond.selects RX0 yX0_widened yX0_widened, Cond.code yX0_widened cX0_widened 7 (some .int), Cond.methodLink RX0 27 yX2_letter, Cond.instanceMethod yX2_letter, Cond.selects RX2 yX2_letter yX2_letter, Cond.code yX2_letter cX2_letter 2 (some .int), Cond.fieldLink RX2 9 "LyndonText$Letters" "row" "[I", Cond.static yX8_at, Cond.code yX8_at cX8_at 2 (some .int), Cond.methodLink RL 114 yX8_rootLength, Cond.instanceMethod yX8_rootLength, Cond.selects RX8 yX8_rootLength yX8_rootLength, Cond.code yX8_rootLength cX8_rootLength 3 (some .int), Cond.methodLink RX8 177 yX0_rootSize, Cond.instanceMethod yX0_rootSize]
def wsL_isPartSo_r3 : List Cond := [Cond.selects RX0 yX0_rootSize yX0_rootSize, Cond.code yX0_rootSize cX0_rootSize 5 (some .int), Cond.methodLink RX0 36 yX0_leastPeriod, Cond.methodLink RL 117 yX8_leastRotation, Cond.instanceMethod yX8_leastRotation, Cond.selects RX8 yX8_leastRotation yX8_leastRotation, Cond.code yX8_leastRotation cX8_leastRotation 3 (some .int), Cond.methodLink RX8 168 yX5_least, Cond.static yX5_least, Cond.initialized RX5, Cond.code yX5_least cX5_least 5 (some .int), Cond.methodLink RX5 13 yX5_difference, Cond.static yX5_difference, Cond.code yX5_difference cX5_difference 7 (some .int), Cond.methodLink RX5 19 yX5_letter, Cond.static yX5_letter, Cond.code yX5_letter cX5_letter 5 (some .int), Cond.methodLink RX5 7 yX2_letter, Cond.methodLink RL 120 yX8_greatestRotation, Cond.instanceMethod yX8_greatestRotation, Cond.selects RX8 yX8_greatestRotation yX8_greatestRotation, Cond.code yX8_greatestRotation cX8_greatestRotation 3 (some .int), Cond.methodLink RX8 174 yX5_greatest, Cond.static yX5_greatest]
def wsL_isPartSo_r4 : List Cond := [Cond.code yX5_greatest cX5_greatest 5 (some .int), Cond.methodLink RL 123 yX8_border, Cond.instanceMethod yX8_border, Cond.selects RX8 yX8_border yX8_border, Cond.code yX8_border cX8_border 3 (some .int), Cond.methodLink RX8 193 yX0_longest, Cond.methodLink RL 126 yX8_periodByTrying, Cond.instanceMethod yX8_periodByTrying, Cond.selects RX8 yX8_periodByTrying yX8_periodByTrying, Cond.code yX8_periodByTrying cX8_periodByTrying 3 (some .int), Cond.methodLink RX8 183 yX2_firstPeriod, Cond.instanceMethod yX2_firstPeriod, Cond.selects RX2 yX2_firstPeriod yX2_firstPeriod, Cond.code yX2_firstPeriod cX2_firstPeriod 4 (some .int), Cond.methodLink RX2 37 yX2_keepsPeriod, Cond.instanceMethod yX2_keepsPeriod, Cond.selects RX2 yX2_keepsPeriod yX2_keepsPeriod, Cond.code yX2_keepsPeriod cX2_keepsPeriod 5 (some .boolean), Cond.methodLink RL 129 yX8_isPeriod, Cond.instanceMethod yX8_isPeriod, Cond.selects RX8 yX8_isPeriod yX8_isPeriod, Cond.code yX8_isPeriod cX8_isPeriod 4 (some .boolean), Cond.methodLink RX8 51 yX8_checkArgument, Cond.static yX8_checkArgument]
def wsL_isPartSo_r5 : List Cond := [Cond.code yX8_checkArgument cX8_checkArgument 3 none, Cond.classLink RX8 107 "java/lang/IllegalArgumentException", Cond.initialized "java/lang/IllegalArgumentException", Cond.methodLink RX8 186 yX2_keepsPeriod, Cond.methodLink RL 133 yX8_rotations, Cond.instanceMethod yX8_rotations, Cond.selects RX8 yX8_rotations yX8_rotations, Cond.code yX8_rotations cX8_rotations 3 (some .int), Cond.methodLink RL 136 yX8_exponent, Cond.instanceMethod yX8_exponent, Cond.selects RX8 yX8_exponent yX8_exponent, Cond.code yX8_exponent cX8_exponent 3 (some .double), Cond.methodLink RX8 196 yX8_quotient, Cond.static yX8_quotient, Cond.code yX8_quotient cX8_quotient 2 (some .double), Cond.methodLink RL 140 yX8_isNecklace, Cond.instanceMethod yX8_isNecklace, Cond.selects RX8 yX8_isNecklace yX8_isNecklace, Cond.code yX8_isNecklace cX8_isNecklace 3 (some .boolean), Cond.methodLink RL 96 yX8_isLyndon, Cond.instanceMethod yX8_isLyndon, Cond.selects RX8 yX8_isLyndon yX8_isLyndon, Cond.code yX8_isLyndon cX8_isLyndon 3 (some .boolean), Cond.methodLink RX8 144 yX1_isOneFactor]
def wsL_isPartSo_r6 : List Cond := [Cond.static yX1_isOneFactor, Cond.initialized RX1, Cond.code yX1_isOneFactor cX1_isOneFactor 3 (some .boolean), Cond.methodLink RX1 32 yX1_firstLength, Cond.static yX1_firstLength, Cond.code yX1_firstLength cX1_firstLength 7 (some .int), Cond.methodLink RX1 36 yX2_letter, Cond.methodLink RL 143 yX8_periods, Cond.instanceMethod yX8_periods, Cond.selects RX8 yX8_periods yX8_periods, Cond.code yX8_periods cX8_periods 3 (some .int), Cond.methodLink RX8 190 yX0_countAll, Cond.instanceMethod yX0_countAll, Cond.selects RX0 yX0_countAll yX0_countAll, Cond.code yX0_countAll cX0_countAll 6 (some .int), Cond.methodLink RL 146 yX8_standardFactor, Cond.instanceMethod yX8_standardFactor, Cond.selects RX8 yX8_standardFactor yX8_standardFactor, Cond.code yX8_standardFactor cX8_standardFactor 4 (some .int), Cond.classLink RX8 89 "java/lang/IllegalStateException", Cond.initialized "java/lang/IllegalStateException", Cond.methodLink RL 107 yX8_compare, Cond.instanceMethod yX8_compare, Cond.selects RX8 yX8_compare yX8_compare]
def wsL_isPartSo_r7 : List Cond := [Cond.code yX8_compare cX8_compare 7 (some .int), Cond.methodLink RX8 130 Lib.Math.min.name, Cond.static Lib.Math.min.name, Cond.initialized "java/lang/Math", Cond.code Lib.Math.min.name Lib.Math.min.code 2 (some .int), Cond.methodLink RX8 136 yX2_countSame, Cond.instanceMethod yX2_countSame, Cond.selects RX2 yX2_countSame yX2_countSame, Cond.code yX2_countSame cX2_countSame 5 (some .int), Cond.methodLink RX2 31 Lib.Math.max.name, Cond.static Lib.Math.max.name, Cond.code Lib.Math.max.name Lib.Math.max.code 2 (some .int), Cond.methodLink RX8 73 yX2_letter, Cond.methodLink RX8 139 yJ6_compare_7cf53, Cond.static yJ6_compare_7cf53, Cond.initialized RJ6, Cond.code yJ6_compare_7cf53 cJ6_compare_7cf53 2 (some .int)]
def wsL_isPartSo : List Cond := .code yL_isPartSo cL_isPartSo 10 (some .boolean) :: ((wsL_isPartSo_r1 ++ (wsL_isPartSo_r2 ++ (wsL_isPartSo_r3 ++ (wsL_isPartSo_r4 ++ (wsL_isPartSo_r5 ++ (wsL_isPartSo_r6 ++ wsL_isPartSo_r7)))))) ++ wsX80 ++ wsX20 ++ wsX00 ++ (vx_atS RX8 236 "java/lang/IndexOutOfBoundsException" ["java/lang/RuntimeException", "java/lang/Exception"]).filter goodWord ++ (vx_atS RX8 111 "java/lang/IllegalArgumentException" ["java/lang/RuntimeException", "java/lang/Exception"]).filter goodWord ++ (vx_atS RX8 93 "java/lang/IllegalStateException" ["java/lang/RuntimeException", "java/lang/Exception"]).filter goodWord)
def wsL_areSuffixesSo_r1 : List Cond := [Cond.methodLink RL 49 yX8_length, Cond.instanceMethod yX8_length, Cond.selects RX8 yX8_length yX8_length, Cond.initialized RX8, Cond.code yX8_length cX8_length 1 (some .int), Cond.fieldLink RX8 10 "LyndonText" "text" "LLyndonText$Letters;", Cond.methodLink RX8 62 yX2_count, Cond.instanceMethod yX2_count, Cond.selects RX2 yX2_count yX2_count, Cond.initialized RX2, Cond.code yX2_count cX2_count 1 (some .int), Cond.fieldLink RX2 15 "LyndonText$Letters" "count" "I", Cond.methodLink RL 149 yX8_suffixAt, Cond.instanceMethod yX8_suffixAt, Cond.selects RX8 yX8_suffixAt yX8_suffixAt, Cond.code yX8_suffixAt cX8_suffixAt 3 (some .int), Cond.fieldLink RX8 40 "LyndonText" "suffixRow" "LLyndonText$Suffixes;", Cond.methodLink RX8 66 yX8_checkIndex, Cond.static yX8_checkIndex, Cond.code yX8_checkIndex cX8_checkIndex 2 none, Cond.classLink RX8 232 "java/lang/IndexOutOfBoundsException", Cond.initialized "java/lang/IndexOutOfBoundsException", Cond.methodLink RX8 214 yX7_find, Cond.instanceMethod yX7_find]
def wsL_areSuffixesSo_r2 : List Cond := [Cond.selects RX7 yX7_find yX7_find, Cond.initialized RX7, Cond.code yX7_find cX7_find 3 none, Cond.fieldLink RX7 9 "LyndonText$Suffixes" "ranks" "[I", Cond.methodLink RX7 19 yX2_count, Cond.static yX8_put, Cond.code yX8_put cX8_put 3 none, Cond.methodLink RX7 29 yX7_putInOrder, Cond.instanceMethod yX7_putInOrder, Cond.selects RX7 yX7_putInOrder yX7_putInOrder, Cond.code yX7_putInOrder cX7_putInOrder 5 none, Cond.methodLink RX7 33 yX7_isLess, Cond.instanceMethod yX7_isLess, Cond.selects RX7 yX7_isLess yX7_isLess, Cond.code yX7_isLess cX7_isLess 5 (some .boolean), Cond.methodLink RX7 37 yX2_letter, Cond.instanceMethod yX2_letter, Cond.selects RX2 yX2_letter yX2_letter, Cond.code yX2_letter cX2_letter 2 (some .int), Cond.fieldLink RX2 9 "LyndonText$Letters" "row" "[I", Cond.static yX8_at, Cond.code yX8_at cX8_at 2 (some .int), Cond.methodLink RX8 215 yX7_rank, Cond.instanceMethod yX7_rank]
def wsL_areSuffixesSo_r3 : List Cond := [Cond.selects RX7 yX7_rank yX7_rank, Cond.code yX7_rank cX7_rank 2 (some .int), Cond.methodLink RL 152 yX8_rankOf, Cond.instanceMethod yX8_rankOf, Cond.selects RX8 yX8_rankOf yX8_rankOf, Cond.code yX8_rankOf cX8_rankOf 2 (some .int), Cond.methodLink RL 107 yX8_compare, Cond.instanceMethod yX8_compare, Cond.selects RX8 yX8_compare yX8_compare, Cond.code yX8_compare cX8_compare 7 (some .int), Cond.methodLink RX8 130 Lib.Math.min.name, Cond.static Lib.Math.min.name, Cond.initialized "java/lang/Math", Cond.code Lib.Math.min.name Lib.Math.min.code 2 (some .int), Cond.methodLink RX8 96 yX8_checkPart, Cond.instanceMethod yX8_checkPart, Cond.selects RX8 yX8_checkPart yX8_checkPart, Cond.code yX8_checkPart cX8_checkPart 3 none, Cond.methodLink RX8 136 yX2_countSame, Cond.instanceMethod yX2_countSame, Cond.selects RX2 yX2_countSame yX2_countSame, Cond.code yX2_countSame cX2_countSame 5 (some .int), Cond.methodLink RX2 31 Lib.Math.max.name, Cond.static Lib.Math.max.name]
def wsL_areSuffixesSo_r4 : List Cond := [Cond.code Lib.Math.max.name Lib.Math.max.code 2 (some .int), Cond.methodLink RX8 73 yX2_letter, Cond.methodLink RX8 139 yJ6_compare_7cf53, Cond.static yJ6_compare_7cf53, Cond.initialized RJ6, Cond.code yJ6_compare_7cf53 cJ6_compare_7cf53 2 (some .int), Cond.methodLink RL 81 yX8_factors, Cond.instanceMethod yX8_factors, Cond.selects RX8 yX8_factors yX8_factors, Cond.code yX8_factors cX8_factors 1 (some .int), Cond.fieldLink RX8 19 "LyndonText" "factorRow" "LLyndonText$Factors;", Cond.methodLink RX8 148 yX1_find, Cond.instanceMethod yX1_find, Cond.selects RX1 yX1_find yX1_find, Cond.initialized RX1, Cond.code yX1_find cX1_find 3 none, Cond.fieldLink RX1 15 "LyndonText$Factors" "count" "I", Cond.fieldLink RX1 9 "LyndonText$Factors" "starts" "[I", Cond.methodLink RX1 23 yX2_count, Cond.methodLink RX1 32 yX1_firstLength, Cond.static yX1_firstLength, Cond.code yX1_firstLength cX1_firstLength 7 (some .int), Cond.methodLink RX1 36 yX2_letter, Cond.methodLink RX8 152 yX1_count]
def wsL_areSuffixesSo_r5 : List Cond := [Cond.instanceMethod yX1_count, Cond.selects RX1 yX1_count yX1_count, Cond.code yX1_count cX1_count 1 (some .int), Cond.methodLink RL 93 yX8_factorStart, Cond.instanceMethod yX8_factorStart, Cond.selects RX8 yX8_factorStart yX8_factorStart, Cond.code yX8_factorStart cX8_factorStart 2 (some .int), Cond.methodLink RX8 153 yX8_findFactor, Cond.instanceMethod yX8_findFactor, Cond.selects RX8 yX8_findFactor yX8_findFactor, Cond.code yX8_findFactor cX8_findFactor 2 none, Cond.methodLink RX8 156 yX1_start, Cond.instanceMethod yX1_start, Cond.selects RX1 yX1_start yX1_start, Cond.code yX1_start cX1_start 2 (some .int)]
def wsL_areSuffixesSo : List Cond := .code yL_areSuffixesSo cL_areSuffixesSo 5 (some .boolean) :: ((wsL_areSuffixesSo_r1 ++ (wsL_areSuffixesSo_r2 ++ (wsL_areSuffixesSo_r3 ++ (wsL_areSuffixesSo_r4 ++ wsL_areSuffixesSo_r5)))) ++ wsX80 ++ wsX20 ++ wsX70 ++ wsX10 ++ (vx_atS RX8 236 "java/lang/IndexOutOfBoundsException" ["java/lang/RuntimeException", "java/lang/Exception"]).filter goodWord)
def wsL_areRunsSo_r1 : List Cond := [Cond.methodLink RL 49 yX8_length, Cond.instanceMethod yX8_length, Cond.selects RX8 yX8_length yX8_length, Cond.initialized RX8, Cond.code yX8_length cX8_length 1 (some .int), Cond.fieldLink RX8 10 "LyndonText" "text" "LLyndonText$Letters;", Cond.methodLink RX8 62 yX2_count, Cond.instanceMethod yX2_count, Cond.selects RX2 yX2_count yX2_count, Cond.initialized RX2, Cond.code yX2_count cX2_count 1 (some .int), Cond.fieldLink RX2 15 "LyndonText$Letters" "count" "I", Cond.methodLink RL 84 yX8_runs, Cond.instanceMethod yX8_runs, Cond.selects RX8 yX8_runs yX8_runs, Cond.code yX8_runs cX8_runs 1 (some .int), Cond.fieldLink RX8 33 "LyndonText" "runRow" "LLyndonText$Runs;", Cond.methodLink RX8 200 yX6_find, Cond.instanceMethod yX6_find, Cond.selects RX6 yX6_find yX6_find, Cond.initialized RX6, Cond.code yX6_find cX6_find 4 none, Cond.fieldLink RX6 21 "LyndonText$Runs" "count" "I", Cond.methodLink RX6 29 yX2_count]
def wsL_areRunsSo_r2 : List Cond := [Cond.methodLink RX6 34 yX6_findOne, Cond.instanceMethod yX6_findOne, Cond.selects RX6 yX6_findOne yX6_findOne, Cond.code yX6_findOne cX6_findOne 5 none, Cond.fieldLink RX6 9 "LyndonText$Runs" "starts" "[I", Cond.fieldLink RX6 15 "LyndonText$Runs" "ends" "[I", Cond.fieldLink RX6 18 "LyndonText$Runs" "distances" "[I", Cond.methodLink RX6 38 yX2_letter, Cond.instanceMethod yX2_letter, Cond.selects RX2 yX2_letter yX2_letter, Cond.code yX2_letter cX2_letter 2 (some .int), Cond.fieldLink RX2 9 "LyndonText$Letters" "row" "[I", Cond.static yX8_at, Cond.code yX8_at cX8_at 2 (some .int), Cond.methodLink RX6 42 yX2_countSame, Cond.instanceMethod yX2_countSame, Cond.selects RX2 yX2_countSame yX2_countSame, Cond.code yX2_countSame cX2_countSame 5 (some .int), Cond.methodLink RX2 31 Lib.Math.max.name, Cond.static Lib.Math.max.name, Cond.initialized "java/lang/Math", Cond.code Lib.Math.max.name Lib.Math.max.code 2 (some .int), Cond.methodLink RX6 46 yX2_firstPeriod, Cond.instanceMethod yX2_firstPeriod]
def wsL_areRunsSo_r3 : List Cond := [Cond.selects RX2 yX2_firstPeriod yX2_firstPeriod, Cond.code yX2_firstPeriod cX2_firstPeriod 4 (some .int), Cond.methodLink RX2 37 yX2_keepsPeriod, Cond.instanceMethod yX2_keepsPeriod, Cond.selects RX2 yX2_keepsPeriod yX2_keepsPeriod, Cond.code yX2_keepsPeriod cX2_keepsPeriod 5 (some .boolean), Cond.static yX8_put, Cond.code yX8_put cX8_put 3 none, Cond.methodLink RX8 201 yX6_count, Cond.instanceMethod yX6_count, Cond.selects RX6 yX6_count yX6_count, Cond.code yX6_count cX6_count 1 (some .int), Cond.methodLink RL 155 yX8_runStart, Cond.instanceMethod yX8_runStart, Cond.selects RX8 yX8_runStart yX8_runStart, Cond.code yX8_runStart cX8_runStart 2 (some .int), Cond.methodLink RX8 202 yX8_findRun, Cond.instanceMethod yX8_findRun, Cond.selects RX8 yX8_findRun yX8_findRun, Cond.code yX8_findRun cX8_findRun 2 none, Cond.methodLink RX8 66 yX8_checkIndex, Cond.static yX8_checkIndex, Cond.code yX8_checkIndex cX8_checkIndex 2 none, Cond.classLink RX8 232 "java/lang/IndexOutOfBoundsException"]
def wsL_areRunsSo_r4 : List Cond := [Cond.initialized "java/lang/IndexOutOfBoundsException", Cond.methodLink RX8 205 yX6_start, Cond.instanceMethod yX6_start, Cond.selects RX6 yX6_start yX6_start, Cond.code yX6_start cX6_start 2 (some .int), Cond.methodLink RL 158 yX8_runEnd, Cond.instanceMethod yX8_runEnd, Cond.selects RX8 yX8_runEnd yX8_runEnd, Cond.code yX8_runEnd cX8_runEnd 2 (some .int), Cond.methodLink RX8 206 yX6_end, Cond.instanceMethod yX6_end, Cond.selects RX6 yX6_end yX6_end, Cond.code yX6_end cX6_end 2 (some .int), Cond.methodLink RL 161 yX8_runPeriod, Cond.instanceMethod yX8_runPeriod, Cond.selects RX8 yX8_runPeriod yX8_runPeriod, Cond.code yX8_runPeriod cX8_runPeriod 2 (some .int), Cond.methodLink RX8 209 yX6_leastPeriod, Cond.instanceMethod yX6_leastPeriod, Cond.selects RX6 yX6_leastPeriod yX6_leastPeriod, Cond.code yX6_leastPeriod cX6_leastPeriod 2 (some .int), Cond.methodLink RL 111 yX8_period, Cond.instanceMethod yX8_period, Cond.selects RX8 yX8_period yX8_period]
def wsL_areRunsSo_r5 : List Cond := [Cond.code yX8_period cX8_period 3 (some .int), Cond.fieldLink RX8 26 "LyndonText" "borderRow" "LLyndonText$Borders;", Cond.methodLink RX8 96 yX8_checkPart, Cond.instanceMethod yX8_checkPart, Cond.selects RX8 yX8_checkPart yX8_checkPart, Cond.code yX8_checkPart cX8_checkPart 3 none, Cond.methodLink RX8 180 yX0_leastPeriod, Cond.instanceMethod yX0_leastPeriod, Cond.selects RX0 yX0_leastPeriod yX0_leastPeriod, Cond.initialized RX0, Cond.code yX0_leastPeriod cX0_leastPeriod 4 (some .int), Cond.methodLink RX0 33 yX0_longest, Cond.instanceMethod yX0_longest, Cond.selects RX0 yX0_longest yX0_longest, Cond.code yX0_longest cX0_longest 5 (some .int), Cond.fieldLink RX0 9 "LyndonText$Borders" "row" "[I", Cond.methodLink RX0 19 yX0_widened, Cond.instanceMethod yX0_widened, Cond.selects RX0 yX0_widened yX0_widened, Cond.code yX0_widened cX0_widened 7 (some .int), Cond.methodLink RX0 27 yX2_letter, Cond.methodLink RL 129 yX8_isPeriod, Cond.instanceMethod yX8_isPeriod, Cond.selects RX8 yX8_isPeriod yX8_isPeriod]
def wsL_areRunsSo_r6 : List Cond := [Cond.code yX8_isPeriod cX8_isPeriod 4 (some .boolean), Cond.methodLink RX8 51 yX8_checkArgument, Cond.static yX8_checkArgument, Cond.code yX8_checkArgument cX8_checkArgument 3 none, Cond.classLink RX8 107 "java/lang/IllegalArgumentException", Cond.initialized "java/lang/IllegalArgumentException", Cond.methodLink RX8 186 yX2_keepsPeriod, Cond.methodLink RL 164 yX8_runsOver, Cond.instanceMethod yX8_runsOver, Cond.selects RX8 yX8_runsOver yX8_runsOver, Cond.code yX8_runsOver cX8_runsOver 4 (some .int), Cond.methodLink RL 167 yX8_squares, Cond.instanceMethod yX8_squares, Cond.selects RX8 yX8_squares yX8_squares, Cond.code yX8_squares cX8_squares 3 (some .int), Cond.methodLink RX8 211 yX6_size, Cond.instanceMethod yX6_size, Cond.selects RX6 yX6_size yX6_size, Cond.code yX6_size cX6_size 2 (some .int)]
def wsL_areRunsSo : List Cond := .code yL_areRunsSo cL_areRunsSo 7 (some .boolean) :: ((wsL_areRunsSo_r1 ++ (wsL_areRunsSo_r2 ++ (wsL_areRunsSo_r3 ++ (wsL_areRunsSo_r4 ++ (wsL_areRunsSo_r5 ++ wsL_areRunsSo_r6))))) ++ wsX80 ++ wsX20 ++ wsX60 ++ wsX00 ++ (vx_atS RX8 236 "java/lang/IndexOutOfBoundsException" ["java/lang/RuntimeException", "java/lang/Exception"]).filter goodWord ++ (vx_atS RX8 111 "java/lang/IllegalArgumentException" ["java/lang/RuntimeException", "java/lang/Exception"]).filter goodWord)
def wsL_law0_r1 : List Cond := [Cond.classLink RL 9 RX8, Cond.instantiable RX8 6, Cond.initialized RX8, Cond.constant RL 16 (-99999), Cond.methodLink RL 170 yX8_init, Cond.instanceMethod yX8_init, Cond.code yX8_init cX8_init 1 none, Cond.methodLink RX8 1 objectInit, Cond.instanceMethod objectInit, Cond.code objectInit ⟨#[0xb1]⟩ 1 none, Cond.classLink RX8 7 RX2, Cond.instantiable RX2 2, Cond.initialized RX2, Cond.fieldLink RX8 10 "LyndonText" "text" "LLyndonText$Letters;", Cond.classLink RX8 16 RX1, Cond.instantiable RX1 2, Cond.initialized RX1, Cond.fieldLink RX8 19 "LyndonText" "factorRow" "LLyndonText$Factors;", Cond.classLink RX8 23 RX0, Cond.instantiable RX0 1, Cond.initialized RX0, Cond.fieldLink RX8 26 "LyndonText" "borderRow" "LLyndonText$Borders;", Cond.classLink RX8 30 RX6, Cond.instantiable RX6 4]
def wsL_law0_r2 : List Cond := [Cond.initialized RX6, Cond.fieldLink RX8 33 "LyndonText" "runRow" "LLyndonText$Runs;", Cond.classLink RX8 37 RX7, Cond.instantiable RX7 1, Cond.initialized RX7, Cond.fieldLink RX8 40 "LyndonText" "suffixRow" "LLyndonText$Suffixes;", Cond.classLink RX8 44 RX3, Cond.instantiable RX3 4, Cond.initialized RX3, Cond.fieldLink RX8 47 "LyndonText" "walk" "LLyndonText$NecklaceWalk;", Cond.instanceMethod yX2_init, Cond.code yX2_init cX2_init 1 none, Cond.methodLink RX2 3 objectInit, Cond.arrayClass .int, Cond.fieldLink RX2 9 "LyndonText$Letters" "row" "[I", Cond.fieldLink RX2 15 "LyndonText$Letters" "count" "I", Cond.instanceMethod yX1_init, Cond.code yX1_init cX1_init 1 none, Cond.methodLink RX1 3 objectInit, Cond.fieldLink RX1 9 "LyndonText$Factors" "starts" "[I", Cond.fieldLink RX1 15 "LyndonText$Factors" "count" "I", Cond.instanceMethod yX0_init, Cond.code yX0_init cX0_init 1 none, Cond.methodLink RX0 3 objectInit]
def wsL_law0_r3 : List Cond := [Cond.fieldLink RX0 9 "LyndonText$Borders" "row" "[I", Cond.instanceMethod yX6_init, Cond.code yX6_init cX6_init 1 none, Cond.methodLink RX6 3 objectInit, Cond.fieldLink RX6 9 "LyndonText$Runs" "starts" "[I", Cond.fieldLink RX6 15 "LyndonText$Runs" "ends" "[I", Cond.fieldLink RX6 18 "LyndonText$Runs" "distances" "[I", Cond.fieldLink RX6 21 "LyndonText$Runs" "count" "I", Cond.instanceMethod yX7_init, Cond.code yX7_init cX7_init 1 none, Cond.methodLink RX7 3 objectInit, Cond.fieldLink RX7 9 "LyndonText$Suffixes" "ranks" "[I", Cond.instanceMethod yX3_init, Cond.code yX3_init cX3_init 1 none, Cond.methodLink RX3 1 objectInit, Cond.fieldLink RX3 7 "LyndonText$NecklaceWalk" "greatest" "I", Cond.fieldLink RX3 13 "LyndonText$NecklaceWalk" "size" "I", Cond.fieldLink RX3 16 "LyndonText$NecklaceWalk" "word" "I", Cond.fieldLink RX3 19 "LyndonText$NecklaceWalk" "root" "I", Cond.methodLink RL 171 yL_cell, Cond.static yL_cell, Cond.initialized RL, Cond.code yL_cell cL_cell 2 (some .int), Cond.methodLink RL 175 yL_act]
def wsL_law0_r4 : List Cond := [Cond.static yL_act, Cond.code yL_act cL_act 6 (some .int), Cond.methodLink RL 44 yL_low, Cond.static yL_low, Cond.code yL_low cL_low 2 (some .int), Cond.constant RL 7 (2147483647), Cond.methodLink RL 49 yX8_length, Cond.instanceMethod yX8_length, Cond.selects RX8 yX8_length yX8_length, Cond.code yX8_length cX8_length 1 (some .int), Cond.methodLink RX8 62 yX2_count, Cond.instanceMethod yX2_count, Cond.selects RX2 yX2_count yX2_count, Cond.code yX2_count cX2_count 1 (some .int), Cond.methodLink RL 53 yL_insert, Cond.static yL_insert, Cond.codeWith yL_insert cL_insert 4 (some .int) [(0, 6, 7, 23), (0, 6, 11, 14), (0, 6, 15, 17)], Cond.classLink RL 23 "java/lang/IndexOutOfBoundsException", Cond.classLink RL 14 "java/lang/IllegalArgumentException", Cond.classLink RL 17 "java/lang/IllegalStateException", Cond.methodLink RL 19 yX8_insert, Cond.instanceMethod yX8_insert, Cond.selects RX8 yX8_insert yX8_insert, Cond.code yX8_insert cX8_insert 3 (some .int)]
def wsL_law0_r5 : List Cond := [Cond.methodLink RX8 66 yX8_checkIndex, Cond.static yX8_checkIndex, Cond.code yX8_checkIndex cX8_checkIndex 2 none, Cond.classLink RX8 232 "java/lang/IndexOutOfBoundsException", Cond.initialized "java/lang/IndexOutOfBoundsException", Cond.methodLink RX8 51 yX8_checkArgument, Cond.static yX8_checkArgument, Cond.code yX8_checkArgument cX8_checkArgument 3 none, Cond.classLink RX8 107 "java/lang/IllegalArgumentException", Cond.initialized "java/lang/IllegalArgumentException", Cond.methodLink RX8 55 yX8_checkRoom, Cond.instanceMethod yX8_checkRoom, Cond.selects RX8 yX8_checkRoom yX8_checkRoom, Cond.code yX8_checkRoom cX8_checkRoom 2 none, Cond.classLink RX8 89 "java/lang/IllegalStateException", Cond.initialized "java/lang/IllegalStateException", Cond.methodLink RX8 70 yX2_open, Cond.instanceMethod yX2_open, Cond.selects RX2 yX2_open yX2_open, Cond.code yX2_open cX2_open 4 none, Cond.static yX8_at, Cond.code yX8_at cX8_at 2 (some .int), Cond.static yX8_put, Cond.code yX8_put cX8_put 3 none]
def wsL_law0_r6 : List Cond := [Cond.methodLink RL 56 yL_set, Cond.static yL_set, Cond.codeWith yL_set cL_set 4 (some .int) [(0, 6, 7, 23), (0, 6, 11, 14)], Cond.methodLink RL 25 yX8_set, Cond.instanceMethod yX8_set, Cond.selects RX8 yX8_set yX8_set, Cond.code yX8_set cX8_set 4 (some .int), Cond.methodLink RX8 73 yX2_letter, Cond.instanceMethod yX2_letter, Cond.selects RX2 yX2_letter yX2_letter, Cond.code yX2_letter cX2_letter 2 (some .int), Cond.methodLink RX8 77 yX2_write, Cond.instanceMethod yX2_write, Cond.selects RX2 yX2_write yX2_write, Cond.code yX2_write cX2_write 3 none, Cond.methodLink RL 58 yL_remove, Cond.static yL_remove, Cond.codeWith yL_remove cL_remove 3 (some .int) [(0, 5, 6, 23)], Cond.methodLink RL 28 yX8_remove, Cond.instanceMethod yX8_remove, Cond.selects RX8 yX8_remove yX8_remove, Cond.code yX8_remove cX8_remove 2 (some .int), Cond.methodLink RX8 80 yX2_take, Cond.instanceMethod yX2_take]
def wsL_law0_r7 : List Cond := [Cond.selects RX2 yX2_take yX2_take, Cond.code yX2_take cX2_take 4 (some .int), Cond.methodLink RL 61 yL_rotate, Cond.static yL_rotate, Cond.codeWith yL_rotate cL_rotate 3 (some .int) [(0, 5, 6, 14), (0, 5, 10, 17)], Cond.methodLink RL 31 yX8_rotate, Cond.instanceMethod yX8_rotate, Cond.selects RX8 yX8_rotate yX8_rotate, Cond.code yX8_rotate cX8_rotate 4 (some .int), Cond.methodLink RX8 86 yX2_turn, Cond.instanceMethod yX2_turn, Cond.selects RX2 yX2_turn yX2_turn, Cond.code yX2_turn cX2_turn 5 none, Cond.methodLink RL 63 yL_copy, Cond.static yL_copy, Cond.codeWith yL_copy cL_copy 4 (some .int) [(0, 6, 7, 23), (0, 6, 11, 17)], Cond.methodLink RL 34 yX8_appendPart, Cond.instanceMethod yX8_appendPart, Cond.selects RX8 yX8_appendPart yX8_appendPart, Cond.code yX8_appendPart cX8_appendPart 4 (some .int), Cond.methodLink RX8 96 yX8_checkPart, Cond.instanceMethod yX8_checkPart, Cond.selects RX8 yX8_checkPart yX8_checkPart, Cond.code yX8_checkPart cX8_checkPart 3 none]
def wsL_law0_r8 : List Cond := [Cond.methodLink RX8 59 yX2_push, Cond.instanceMethod yX2_push, Cond.selects RX2 yX2_push yX2_push, Cond.code yX2_push cX2_push 2 none, Cond.methodLink RX2 27 yX2_open, Cond.methodLink RL 66 yX8_clear, Cond.instanceMethod yX8_clear, Cond.selects RX8 yX8_clear yX8_clear, Cond.code yX8_clear cX8_clear 2 (some .int), Cond.methodLink RX8 83 yX2_empty, Cond.instanceMethod yX2_empty, Cond.selects RX2 yX2_empty yX2_empty, Cond.code yX2_empty cX2_empty 1 none, Cond.methodLink RL 69 yX8_reverse, Cond.instanceMethod yX8_reverse, Cond.selects RX8 yX8_reverse yX8_reverse, Cond.code yX8_reverse cX8_reverse 1 (some .int), Cond.methodLink RL 72 yL_deBruijn, Cond.static yL_deBruijn, Cond.codeWith yL_deBruijn cL_deBruijn 4 (some .int) [(0, 6, 7, 14)], Cond.methodLink RL 37 yX8_loadDeBruijn, Cond.instanceMethod yX8_loadDeBruijn, Cond.selects RX8 yX8_loadDeBruijn yX8_loadDeBruijn, Cond.code yX8_loadDeBruijn cX8_loadDeBruijn 5 (some .int)]
def wsL_law0_r9 : List Cond := [Cond.constantLong RX8 105 (64), Cond.methodLink RX8 99 yX4_power, Cond.static yX4_power, Cond.initialized RX4, Cond.code yX4_power cX4_power 5 (some .long), Cond.methodLink RX8 112 yX3_begin, Cond.instanceMethod yX3_begin, Cond.selects RX3 yX3_begin yX3_begin, Cond.code yX3_begin cX3_begin 3 none, Cond.methodLink RX8 115 yX3_root, Cond.instanceMethod yX3_root, Cond.selects RX3 yX3_root yX3_root, Cond.code yX3_root cX3_root 1 (some .int), Cond.methodLink RX8 118 yX8_pushFromWalk, Cond.instanceMethod yX8_pushFromWalk, Cond.selects RX8 yX8_pushFromWalk yX8_pushFromWalk, Cond.code yX8_pushFromWalk cX8_pushFromWalk 3 none, Cond.methodLink RX8 241 yX3_letter, Cond.instanceMethod yX3_letter, Cond.selects RX3 yX3_letter yX3_letter, Cond.code yX3_letter cX3_letter 2 (some .int), Cond.methodLink RX8 121 yX3_toNextNecklace, Cond.instanceMethod yX3_toNextNecklace, Cond.selects RX3 yX3_toNextNecklace yX3_toNextNecklace]
def wsL_law0_r10 : List Cond := [Cond.code yX3_toNextNecklace cX3_toNextNecklace 2 (some .boolean), Cond.constant RX3 22 (1048576), Cond.methodLink RX3 23 yX3_toNextWord, Cond.instanceMethod yX3_toNextWord, Cond.selects RX3 yX3_toNextWord yX3_toNextWord, Cond.code yX3_toNextWord cX3_toNextWord 4 (some .boolean), Cond.methodLink RX3 30 yX3_pack, Cond.static yX3_pack, Cond.code yX3_pack cX3_pack 2 (some .int), Cond.methodLink RL 75 yL_necklace, Cond.static yL_necklace, Cond.codeWith yL_necklace cL_necklace 5 (some .int) [(0, 7, 8, 14)], Cond.methodLink RL 40 yX8_loadNecklace, Cond.instanceMethod yX8_loadNecklace, Cond.selects RX8 yX8_loadNecklace yX8_loadNecklace, Cond.code yX8_loadNecklace cX8_loadNecklace 5 (some .int), Cond.methodLink RX8 125 yX4_necklaceCount, Cond.static yX4_necklaceCount, Cond.code yX4_necklaceCount cX4_necklaceCount 5 (some .long), Cond.methodLink RX4 7 yX4_lyndonCount, Cond.static yX4_lyndonCount, Cond.code yX4_lyndonCount cX4_lyndonCount 5 (some .long), Cond.methodLink RX4 13 yX4_moebius, Cond.static yX4_moebius]
def wsL_law0_r11 : List Cond := [Cond.code yX4_moebius cX4_moebius 4 (some .int), Cond.methodLink RX4 17 yX4_power, Cond.methodLink RL 79 yL_append, Cond.static yL_append, Cond.codeWith yL_append cL_append 3 (some .int) [(0, 5, 6, 14), (0, 5, 10, 17)], Cond.methodLink RL 8 yX8_append, Cond.instanceMethod yX8_append, Cond.selects RX8 yX8_append yX8_append, Cond.code yX8_append cX8_append 2 (some .int), Cond.methodLink RL 178 yL_areAlike, Cond.static yL_areAlike, Cond.code yL_areAlike cL_areAlike 4 (some .boolean), Cond.methodLink RL 81 yX8_factors, Cond.instanceMethod yX8_factors, Cond.selects RX8 yX8_factors yX8_factors, Cond.code yX8_factors cX8_factors 1 (some .int), Cond.methodLink RX8 148 yX1_find, Cond.instanceMethod yX1_find, Cond.selects RX1 yX1_find yX1_find, Cond.code yX1_find cX1_find 3 none, Cond.methodLink RX1 23 yX2_count, Cond.methodLink RX1 32 yX1_firstLength, Cond.static yX1_firstLength, Cond.code yX1_firstLength cX1_firstLength 7 (some .int)]
def wsL_law0_r12 : List Cond := [Cond.methodLink RX1 36 yX2_letter, Cond.methodLink RX8 152 yX1_count, Cond.instanceMethod yX1_count, Cond.selects RX1 yX1_count yX1_count, Cond.code yX1_count cX1_count 1 (some .int), Cond.methodLink RL 84 yX8_runs, Cond.instanceMethod yX8_runs, Cond.selects RX8 yX8_runs yX8_runs, Cond.code yX8_runs cX8_runs 1 (some .int), Cond.methodLink RX8 200 yX6_find, Cond.instanceMethod yX6_find, Cond.selects RX6 yX6_find yX6_find, Cond.code yX6_find cX6_find 4 none, Cond.methodLink RX6 29 yX2_count, Cond.methodLink RX6 34 yX6_findOne, Cond.instanceMethod yX6_findOne, Cond.selects RX6 yX6_findOne yX6_findOne, Cond.code yX6_findOne cX6_findOne 5 none, Cond.methodLink RX6 38 yX2_letter, Cond.methodLink RX6 42 yX2_countSame, Cond.instanceMethod yX2_countSame, Cond.selects RX2 yX2_countSame yX2_countSame, Cond.code yX2_countSame cX2_countSame 5 (some .int), Cond.methodLink RX2 31 Lib.Math.max.name]
def wsL_law0_r13 : List Cond := [Cond.static Lib.Math.max.name, Cond.initialized "java/lang/Math", Cond.code Lib.Math.max.name Lib.Math.max.code 2 (some .int), Cond.methodLink RX6 46 yX2_firstPeriod, Cond.instanceMethod yX2_firstPeriod, Cond.selects RX2 yX2_firstPeriod yX2_firstPeriod, Cond.code yX2_firstPeriod cX2_firstPeriod 4 (some .int), Cond.methodLink RX2 37 yX2_keepsPeriod, Cond.instanceMethod yX2_keepsPeriod, Cond.selects RX2 yX2_keepsPeriod yX2_keepsPeriod, Cond.code yX2_keepsPeriod cX2_keepsPeriod 5 (some .boolean), Cond.methodLink RX8 201 yX6_count, Cond.instanceMethod yX6_count, Cond.selects RX6 yX6_count yX6_count, Cond.code yX6_count cX6_count 1 (some .int), Cond.methodLink RL 87 yX8_letterAt, Cond.instanceMethod yX8_letterAt, Cond.selects RX8 yX8_letterAt yX8_letterAt, Cond.code yX8_letterAt cX8_letterAt 2 (some .int), Cond.methodLink RL 182 yL_areFactorsSo, Cond.static yL_areFactorsSo, Cond.code yL_areFactorsSo cL_areFactorsSo 5 (some .boolean), Cond.methodLink RL 90 yX8_factorLength, Cond.instanceMethod yX8_factorLength]
def wsL_law0_r14 : List Cond := [Cond.selects RX8 yX8_factorLength yX8_factorLength, Cond.code yX8_factorLength cX8_factorLength 2 (some .int), Cond.methodLink RX8 153 yX8_findFactor, Cond.instanceMethod yX8_findFactor, Cond.selects RX8 yX8_findFactor yX8_findFactor, Cond.code yX8_findFactor cX8_findFactor 2 none, Cond.methodLink RX8 156 yX1_start, Cond.instanceMethod yX1_start, Cond.selects RX1 yX1_start yX1_start, Cond.code yX1_start cX1_start 2 (some .int), Cond.methodLink RL 93 yX8_factorStart, Cond.instanceMethod yX8_factorStart, Cond.selects RX8 yX8_factorStart yX8_factorStart, Cond.code yX8_factorStart cX8_factorStart 2 (some .int), Cond.methodLink RL 96 yX8_isLyndon, Cond.instanceMethod yX8_isLyndon, Cond.selects RX8 yX8_isLyndon yX8_isLyndon, Cond.code yX8_isLyndon cX8_isLyndon 3 (some .boolean), Cond.methodLink RX8 144 yX1_isOneFactor, Cond.static yX1_isOneFactor, Cond.code yX1_isOneFactor cX1_isOneFactor 3 (some .boolean), Cond.methodLink RL 100 yX8_longestLyndon, Cond.instanceMethod yX8_longestLyndon, Cond.selects RX8 yX8_longestLyndon yX8_longestLyndon]
def wsL_law0_r15 : List Cond := [Cond.code yX8_longestLyndon cX8_longestLyndon 3 (some .int), Cond.methodLink RX8 162 yX1_firstLength, Cond.methodLink RL 104 yX8_factorOver, Cond.instanceMethod yX8_factorOver, Cond.selects RX8 yX8_factorOver yX8_factorOver, Cond.code yX8_factorOver cX8_factorOver 2 (some .int), Cond.methodLink RX8 159 yX1_numberOver, Cond.instanceMethod yX1_numberOver, Cond.selects RX1 yX1_numberOver yX1_numberOver, Cond.code yX1_numberOver cX1_numberOver 3 (some .int), Cond.methodLink RL 107 yX8_compare, Cond.instanceMethod yX8_compare, Cond.selects RX8 yX8_compare yX8_compare, Cond.code yX8_compare cX8_compare 7 (some .int), Cond.methodLink RX8 130 Lib.Math.min.name, Cond.static Lib.Math.min.name, Cond.code Lib.Math.min.name Lib.Math.min.code 2 (some .int), Cond.methodLink RX8 136 yX2_countSame, Cond.methodLink RX8 139 yJ6_compare_7cf53, Cond.static yJ6_compare_7cf53, Cond.initialized RJ6, Cond.code yJ6_compare_7cf53 cJ6_compare_7cf53 2 (some .int), Cond.methodLink RL 186 yL_isPartSo, Cond.static yL_isPartSo]
def wsL_law0_r16 : List Cond := [Cond.code yL_isPartSo cL_isPartSo 10 (some .boolean), Cond.methodLink RL 111 yX8_period, Cond.instanceMethod yX8_period, Cond.selects RX8 yX8_period yX8_period, Cond.code yX8_period cX8_period 3 (some .int), Cond.methodLink RX8 180 yX0_leastPeriod, Cond.instanceMethod yX0_leastPeriod, Cond.selects RX0 yX0_leastPeriod yX0_leastPeriod, Cond.code yX0_leastPeriod cX0_leastPeriod 4 (some .int), Cond.methodLink RX0 33 yX0_longest, Cond.instanceMethod yX0_longest, Cond.selects RX0 yX0_longest yX0_longest, Cond.code yX0_longest cX0_longest 5 (some .int), Cond.methodLink RX0 19 yX0_widened, Cond.instanceMethod yX0_widened, Cond.selects RX0 yX0_widened yX0_widened, Cond.code yX0_widened cX0_widened 7 (some .int), Cond.methodLink RX0 27 yX2_letter, Cond.methodLink RL 114 yX8_rootLength, Cond.instanceMethod yX8_rootLength, Cond.selects RX8 yX8_rootLength yX8_rootLength, Cond.code yX8_rootLength cX8_rootLength 3 (some .int), Cond.methodLink RX8 177 yX0_rootSize, Cond.instanceMethod yX0_rootSize]
def wsL_law0_r17 : List Cond := [Cond.selects RX0 yX0_rootSize yX0_rootSize, Cond.code yX0_rootSize cX0_rootSize 5 (some .int), Cond.methodLink RX0 36 yX0_leastPeriod, Cond.methodLink RL 117 yX8_leastRotation, Cond.instanceMethod yX8_leastRotation, Cond.selects RX8 yX8_leastRotation yX8_leastRotation, Cond.code yX8_leastRotation cX8_leastRotation 3 (some .int), Cond.methodLink RX8 168 yX5_least, Cond.static yX5_least, Cond.initialized RX5, Cond.code yX5_least cX5_least 5 (some .int), Cond.methodLink RX5 13 yX5_difference, Cond.static yX5_difference, Cond.code yX5_difference cX5_difference 7 (some .int), Cond.methodLink RX5 19 yX5_letter, Cond.static yX5_letter, Cond.code yX5_letter cX5_letter 5 (some .int), Cond.methodLink RX5 7 yX2_letter, Cond.methodLink RL 120 yX8_greatestRotation, Cond.instanceMethod yX8_greatestRotation, Cond.selects RX8 yX8_greatestRotation yX8_greatestRotation, Cond.code yX8_greatestRotation cX8_greatestRotation 3 (some .int), Cond.methodLink RX8 174 yX5_greatest, Cond.static yX5_greatest]
def wsL_law0_r18 : List Cond := [Cond.code yX5_greatest cX5_greatest 5 (some .int), Cond.methodLink RL 123 yX8_border, Cond.instanceMethod yX8_border, Cond.selects RX8 yX8_border yX8_border, Cond.code yX8_border cX8_border 3 (some .int), Cond.methodLink RX8 193 yX0_longest, Cond.methodLink RL 126 yX8_periodByTrying, Cond.instanceMethod yX8_periodByTrying, Cond.selects RX8 yX8_periodByTrying yX8_periodByTrying, Cond.code yX8_periodByTrying cX8_periodByTrying 3 (some .int), Cond.methodLink RX8 183 yX2_firstPeriod, Cond.methodLink RL 129 yX8_isPeriod, Cond.instanceMethod yX8_isPeriod, Cond.selects RX8 yX8_isPeriod yX8_isPeriod, Cond.code yX8_isPeriod cX8_isPeriod 4 (some .boolean), Cond.methodLink RX8 186 yX2_keepsPeriod, Cond.methodLink RL 133 yX8_rotations, Cond.instanceMethod yX8_rotations, Cond.selects RX8 yX8_rotations yX8_rotations, Cond.code yX8_rotations cX8_rotations 3 (some .int), Cond.methodLink RL 136 yX8_exponent, Cond.instanceMethod yX8_exponent, Cond.selects RX8 yX8_exponent yX8_exponent, Cond.code yX8_exponent cX8_exponent 3 (some .double)]
def wsL_law0_r19 : List Cond := [Cond.methodLink RX8 196 yX8_quotient, Cond.static yX8_quotient, Cond.code yX8_quotient cX8_quotient 2 (some .double), Cond.methodLink RL 140 yX8_isNecklace, Cond.instanceMethod yX8_isNecklace, Cond.selects RX8 yX8_isNecklace yX8_isNecklace, Cond.code yX8_isNecklace cX8_isNecklace 3 (some .boolean), Cond.methodLink RL 143 yX8_periods, Cond.instanceMethod yX8_periods, Cond.selects RX8 yX8_periods yX8_periods, Cond.code yX8_periods cX8_periods 3 (some .int), Cond.methodLink RX8 190 yX0_countAll, Cond.instanceMethod yX0_countAll, Cond.selects RX0 yX0_countAll yX0_countAll, Cond.code yX0_countAll cX0_countAll 6 (some .int), Cond.methodLink RL 146 yX8_standardFactor, Cond.instanceMethod yX8_standardFactor, Cond.selects RX8 yX8_standardFactor yX8_standardFactor, Cond.code yX8_standardFactor cX8_standardFactor 4 (some .int), Cond.methodLink RL 190 yL_areSuffixesSo, Cond.static yL_areSuffixesSo, Cond.code yL_areSuffixesSo cL_areSuffixesSo 5 (some .boolean), Cond.methodLink RL 149 yX8_suffixAt, Cond.instanceMethod yX8_suffixAt]
def wsL_law0_r20 : List Cond := [Cond.selects RX8 yX8_suffixAt yX8_suffixAt, Cond.code yX8_suffixAt cX8_suffixAt 3 (some .int), Cond.methodLink RX8 214 yX7_find, Cond.instanceMethod yX7_find, Cond.selects RX7 yX7_find yX7_find, Cond.code yX7_find cX7_find 3 none, Cond.methodLink RX7 19 yX2_count, Cond.methodLink RX7 29 yX7_putInOrder, Cond.instanceMethod yX7_putInOrder, Cond.selects RX7 yX7_putInOrder yX7_putInOrder, Cond.code yX7_putInOrder cX7_putInOrder 5 none, Cond.methodLink RX7 33 yX7_isLess, Cond.instanceMethod yX7_isLess, Cond.selects RX7 yX7_isLess yX7_isLess, Cond.code yX7_isLess cX7_isLess 5 (some .boolean), Cond.methodLink RX7 37 yX2_letter, Cond.methodLink RX8 215 yX7_rank, Cond.instanceMethod yX7_rank, Cond.selects RX7 yX7_rank yX7_rank, Cond.code yX7_rank cX7_rank 2 (some .int), Cond.methodLink RL 152 yX8_rankOf, Cond.instanceMethod yX8_rankOf, Cond.selects RX8 yX8_rankOf yX8_rankOf, Cond.code yX8_rankOf cX8_rankOf 2 (some .int)]
def wsL_law0_r21 : List Cond := [Cond.methodLink RL 193 yL_areRunsSo, Cond.static yL_areRunsSo, Cond.code yL_areRunsSo cL_areRunsSo 7 (some .boolean), Cond.methodLink RL 155 yX8_runStart, Cond.instanceMethod yX8_runStart, Cond.selects RX8 yX8_runStart yX8_runStart, Cond.code yX8_runStart cX8_runStart 2 (some .int), Cond.methodLink RX8 202 yX8_findRun, Cond.instanceMethod yX8_findRun, Cond.selects RX8 yX8_findRun yX8_findRun, Cond.code yX8_findRun cX8_findRun 2 none, Cond.methodLink RX8 205 yX6_start, Cond.instanceMethod yX6_start, Cond.selects RX6 yX6_start yX6_start, Cond.code yX6_start cX6_start 2 (some .int), Cond.methodLink RL 158 yX8_runEnd, Cond.instanceMethod yX8_runEnd, Cond.selects RX8 yX8_runEnd yX8_runEnd, Cond.code yX8_runEnd cX8_runEnd 2 (some .int), Cond.methodLink RX8 206 yX6_end, Cond.instanceMethod yX6_end, Cond.selects RX6 yX6_end yX6_end, Cond.code yX6_end cX6_end 2 (some .int), Cond.methodLink RL 161 yX8_runPeriod]
def wsL_law0_r22 : List Cond := [Cond.instanceMethod yX8_runPeriod, Cond.selects RX8 yX8_runPeriod yX8_runPeriod, Cond.code yX8_runPeriod cX8_runPeriod 2 (some .int), Cond.methodLink RX8 209 yX6_leastPeriod, Cond.instanceMethod yX6_leastPeriod, Cond.selects RX6 yX6_leastPeriod yX6_leastPeriod, Cond.code yX6_leastPeriod cX6_leastPeriod 2 (some .int), Cond.methodLink RL 164 yX8_runsOver, Cond.instanceMethod yX8_runsOver, Cond.selects RX8 yX8_runsOver yX8_runsOver, Cond.code yX8_runsOver cX8_runsOver 4 (some .int), Cond.methodLink RL 167 yX8_squares, Cond.instanceMethod yX8_squares, Cond.selects RX8 yX8_squares yX8_squares, Cond.code yX8_squares cX8_squares 3 (some .int), Cond.methodLink RX8 211 yX6_size, Cond.instanceMethod yX6_size, Cond.selects RX6 yX6_size yX6_size, Cond.code yX6_size cX6_size 2 (some .int)]
def wsL_law0 : List Cond := (wsL_law0_r1 ++ (wsL_law0_r2 ++ (wsL_law0_r3 ++ (wsL_law0_r4 ++ (wsL_law0_r5 ++ (wsL_law0_r6 ++ (wsL_law0_r7 ++ (wsL_law0_r8 ++ (wsL_law0_r9 ++ (wsL_law0_r10 ++ (wsL_law0_r11 ++ (wsL_law0_r12 ++ (wsL_law0_r13 ++ (wsL_law0_r14 ++ (wsL_law0_r15 ++ (wsL_law0_r16 ++ (wsL_law0_r17 ++ (wsL_law0_r18 ++ (wsL_law0_r19 ++ (wsL_law0_r20 ++ (wsL_law0_r21 ++ wsL_law0_r22))))))))))))))))))))) ++ wsX80 ++ wsX20 ++ wsX10 ++ wsX00 ++ wsX60 ++ wsX70 ++ wsX30 ++ ([] : List Cond)
def wsL_law : List Cond := wsL_law0 ++ (vx_atS RX8 236 "java/lang/IndexOutOfBoundsException" ["java/lang/RuntimeException", "java/lang/Exception"]).filter goodWord ++ (vx_atS RX8 111 "java/lang/IllegalArgumentException" ["java/lang/RuntimeException", "java/lang/Exception"]).filter goodWord ++ (vx_atS RX8 93 "java/lang/IllegalStateException" ["java/lang/RuntimeException", "java/lang/Exception"]).filter goodWord
set_option maxRecDepth 20000 in
theorem wsL_law0_r1_in : ∀ w ∈ wsL_law0_r1, w ∈ lw_tbl := fun w h => (goodIn_r (big := lw_tbl) wsL_law0_r1 [29, 30, 12, 289, 31, 32, 33, 34, 35, 36, 37, 38, 13, 122, 51, 52, 14, 123, 64, 65, 15, 124, 74, 75] (by decide +kernel) (by decide +kernel) w h).1
set_option maxRecDepth 20000 in
theorem wsL_law0_r2_in : ∀ w ∈ wsL_law0_r2, w ∈ lw_tbl := fun w h => (goodIn_r (big := lw_tbl) wsL_law0_r2 [16, 125, 93, 94, 17, 126, 103, 104, 18, 127, 40, 41, 42, 50, 43, 44, 54, 55, 56, 57, 58, 67, 68, 69] (by decide +kernel) (by decide +kernel) w h).1
set_option maxRecDepth 20000 in
theorem wsL_law0_r3_in : ∀ w ∈ wsL_law0_r3, w ∈ lw_tbl := fun w h => (goodIn_r (big := lw_tbl) wsL_law0_r3 [70, 77, 78, 79, 80, 81, 82, 83, 96, 97, 98, 99, 106, 107, 108, 109, 110, 111, 112, 149, 150, 11, 151, 156] (by decide +kernel) (by decide +kernel) w h).1
set_option maxRecDepth 20000 in
theorem wsL_law0_r4_in : ∀ w ∈ wsL_law0_r4, w ∈ lw_tbl := fun w h => (goodIn_r (big := lw_tbl) wsL_law0_r4 [157, 158, 152, 153, 154, 155, 141, 142, 143, 144, 145, 146, 147, 148, 159, 160, 161, 162, 163, 164, 165, 166, 167, 168] (by decide +kernel) (by decide +kernel) w h).1
set_option maxRecDepth 20000 in
theorem wsL_law0_r5_in : ∀ w ∈ wsL_law0_r5, w ∈ lw_tbl := fun w h => (goodIn_r (big := lw_tbl) wsL_law0_r5 [169, 170, 171, 172, 22, 240, 241, 242, 243, 23, 259, 261, 1, 262, 263, 24, 279, 280, 281, 282, 284, 285, 287, 288] (by decide +kernel) (by decide +kernel) w h).1
set_option maxRecDepth 20000 in
theorem wsL_law0_r6_in : ∀ w ∈ wsL_law0_r6, w ∈ lw_tbl := fun w h => (goodIn_r (big := lw_tbl) wsL_law0_r6 [290, 291, 292, 293, 294, 295, 296, 297, 298, 299, 300, 301, 302, 303, 304, 305, 306, 307, 308, 309, 310, 311, 312, 313] (by decide +kernel) (by decide +kernel) w h).1
set_option maxRecDepth 20000 in
theorem wsL_law0_r7_in : ∀ w ∈ wsL_law0_r7, w ∈ lw_tbl := fun w h => (goodIn_r (big := lw_tbl) wsL_law0_r7 [314, 315, 316, 317, 318, 319, 320, 321, 322, 324, 325, 326, 327, 328, 329, 330, 331, 332, 333, 334, 335, 337, 2, 338] (by decide +kernel) (by decide +kernel) w h).1
set_option maxRecDepth 20000 in
theorem wsL_law0_r8_in : ∀ w ∈ wsL_law0_r8, w ∈ lw_tbl := fun w h => (goodIn_r (big := lw_tbl) wsL_law0_r8 [340, 341, 342, 343, 344, 345, 346, 347, 348, 349, 350, 351, 352, 353, 354, 355, 356, 357, 358, 359, 360, 361, 362, 363] (by decide +kernel) (by decide +kernel) w h).1
set_option maxRecDepth 20000 in
theorem wsL_law0_r9_in : ∀ w ∈ wsL_law0_r9, w ∈ lw_tbl := fun w h => (goodIn_r (big := lw_tbl) wsL_law0_r9 [367, 364, 365, 25, 366, 368, 369, 370, 371, 372, 373, 374, 375, 376, 378, 3, 379, 380, 381, 382, 383, 384, 385, 386] (by decide +kernel) (by decide +kernel) w h).1
set_option maxRecDepth 20000 in
theorem wsL_law0_r10_in : ∀ w ∈ wsL_law0_r10, w ∈ lw_tbl := fun w h => (goodIn_r (big := lw_tbl) wsL_law0_r10 [387, 388, 389, 391, 4, 392, 393, 394, 395, 396, 397, 398, 399, 400, 401, 402, 403, 404, 405, 406, 407, 408, 409, 410] (by decide +kernel) (by decide +kernel) w h).1
set_option maxRecDepth 20000 in
theorem wsL_law0_r11_in : ∀ w ∈ wsL_law0_r11, w ∈ lw_tbl := fun w h => (goodIn_r (big := lw_tbl) wsL_law0_r11 [411, 412, 414, 415, 416, 417, 418, 419, 420, 421, 422, 423, 424, 425, 426, 427, 428, 429, 430, 431, 432, 434, 435, 436] (by decide +kernel) (by decide +kernel) w h).1
set_option maxRecDepth 20000 in
theorem wsL_law0_r12_in : ∀ w ∈ wsL_law0_r12, w ∈ lw_tbl := fun w h => (goodIn_r (big := lw_tbl) wsL_law0_r12 [437, 438, 439, 440, 441, 442, 443, 444, 445, 446, 447, 448, 449, 450, 451, 453, 5, 454, 455, 456, 457, 458, 459, 460] (by decide +kernel) (by decide +kernel) w h).1
set_option maxRecDepth 20000 in
theorem wsL_law0_r13_in : ∀ w ∈ wsL_law0_r13, w ∈ lw_tbl := fun w h => (goodIn_r (big := lw_tbl) wsL_law0_r13 [461, 26, 462, 463, 464, 465, 466, 467, 468, 469, 470, 472, 473, 474, 475, 476, 477, 478, 479, 480, 481, 482, 483, 484] (by decide +kernel) (by decide +kernel) w h).1
set_option maxRecDepth 20000 in
theorem wsL_law0_r14_in : ∀ w ∈ wsL_law0_r14, w ∈ lw_tbl := fun w h => (goodIn_r (big := lw_tbl) wsL_law0_r14 [485, 486, 487, 489, 6, 490, 491, 492, 493, 494, 496, 497, 498, 499, 500, 501, 502, 503, 504, 505, 506, 507, 508, 509] (by decide +kernel) (by decide +kernel) w h).1
set_option maxRecDepth 20000 in
theorem wsL_law0_r15_in : ∀ w ∈ wsL_law0_r15, w ∈ lw_tbl := fun w h => (goodIn_r (big := lw_tbl) wsL_law0_r15 [510, 511, 512, 513, 514, 515, 516, 517, 518, 519, 520, 521, 522, 523, 524, 525, 526, 527, 528, 529, 27, 530, 531, 532] (by decide +kernel) (by decide +kernel) w h).1
set_option maxRecDepth 20000 in
theorem wsL_law0_r16_in : ∀ w ∈ wsL_law0_r16, w ∈ lw_tbl := fun w h => (goodIn_r (big := lw_tbl) wsL_law0_r16 [533, 534, 535, 536, 537, 538, 539, 540, 541, 542, 543, 544, 545, 547, 549, 7, 550, 551, 553, 554, 555, 556, 557, 558] (by decide +kernel) (by decide +kernel) w h).1
set_option maxRecDepth 20000 in
theorem wsL_law0_r17_in : ∀ w ∈ wsL_law0_r17, w ∈ lw_tbl := fun w h => (goodIn_r (big := lw_tbl) wsL_law0_r17 [559, 560, 561, 562, 563, 564, 565, 566, 567, 28, 568, 569, 570, 571, 572, 573, 574, 575, 576, 577, 578, 579, 580, 581] (by decide +kernel) (by decide +kernel) w h).1
set_option maxRecDepth 20000 in
theorem wsL_law0_r18_in : ∀ w ∈ wsL_law0_r18, w ∈ lw_tbl := fun w h => (goodIn_r (big := lw_tbl) wsL_law0_r18 [582, 583, 584, 585, 586, 587, 588, 589, 590, 591, 592, 593, 594, 595, 596, 597, 598, 599, 600, 601, 602, 603, 604, 605] (by decide +kernel) (by decide +kernel) w h).1
set_option maxRecDepth 20000 in
theorem wsL_law0_r19_in : ∀ w ∈ wsL_law0_r19, w ∈ lw_tbl := fun w h => (goodIn_r (big := lw_tbl) wsL_law0_r19 [606, 607, 608, 609, 610, 611, 612, 613, 614, 615, 616, 617, 618, 619, 620, 621, 622, 623, 624, 626, 627, 628, 629, 630] (by decide +kernel) (by decide +kernel) w h).1
set_option maxRecDepth 20000 in
theorem wsL_law0_r20_in : ∀ w ∈ wsL_law0_r20, w ∈ lw_tbl := fun w h => (goodIn_r (big := lw_tbl) wsL_law0_r20 [631, 632, 633, 634, 635, 636, 637, 639, 641, 8, 642, 643, 645, 9, 646, 647, 649, 650, 651, 652, 653, 654, 655, 656] (by decide +kernel) (by decide +kernel) w h).1
set_option maxRecDepth 20000 in
theorem wsL_law0_r21_in : ∀ w ∈ wsL_law0_r21, w ∈ lw_tbl := fun w h => (goodIn_r (big := lw_tbl) wsL_law0_r21 [657, 658, 659, 660, 661, 662, 663, 664, 666, 10, 667, 668, 669, 670, 671, 673, 674, 675, 676, 677, 678, 679, 680, 681] (by decide +kernel) (by decide +kernel) w h).1
set_option maxRecDepth 20000 in
theorem wsL_law0_r22_in : ∀ w ∈ wsL_law0_r22, w ∈ lw_tbl := fun w h => (goodIn_r (big := lw_tbl) wsL_law0_r22 [682, 683, 684, 685, 686, 687, 688, 689, 690, 691, 692, 693, 694, 695, 696, 697, 698, 699, 700] (by decide +kernel) (by decide +kernel) w h).1
set_option maxRecDepth 20000 in
theorem wsX80_tin : ∀ w ∈ wsX80, w ∈ lw_tbl := by decide +kernel
set_option maxRecDepth 20000 in
theorem wsX20_tin : ∀ w ∈ wsX20, w ∈ lw_tbl := by decide +kernel
set_option maxRecDepth 20000 in
theorem wsX10_tin : ∀ w ∈ wsX10, w ∈ lw_tbl := by decide +kernel
set_option maxRecDepth 20000 in
theorem wsX00_tin : ∀ w ∈ wsX00, w ∈ lw_tbl := by decide +kernel
set_option maxRecDepth 20000 in
theorem wsX60_tin : ∀ w ∈ wsX60, w ∈ lw_tbl := by decide +kernel
set_option maxRecDepth 20000 in
theorem wsX70_tin : ∀ w ∈ wsX70, w ∈ lw_tbl := by decide +kernel
set_option maxRecDepth 20000 in
theorem wsX30_tin : ∀ w ∈ wsX30, w ∈ lw_tbl := by decide +kernel
theorem wsL_law_in0 : ∀ w ∈ wsL_law0, w ∈ lw_tbl := List.forall_mem_append.mpr ⟨List.forall_mem_append.mpr ⟨List.forall_mem_append.mpr ⟨List.forall_mem_append.mpr ⟨List.forall_mem_append.mpr ⟨List.forall_mem_append.mpr ⟨List.forall_mem_append.mpr ⟨List.forall_mem_append.mpr ⟨List.forall_mem_append.mpr ⟨wsL_law0_r1_in, List.forall_mem_append.mpr ⟨wsL_law0_r2_in, List.forall_mem_append.mpr ⟨wsL_law0_r3_in, List.forall_mem_append.mpr ⟨wsL_law0_r4_in, List.forall_mem_append.mpr ⟨wsL_law0_r5_in, List.forall_mem_append.mpr ⟨wsL_law0_r6_in, List.forall_mem_append.mpr ⟨wsL_law0_r7_in, List.forall_mem_append.mpr ⟨wsL_law0_r8_in, List.forall_mem_append.mpr ⟨wsL_law0_r9_in, List.forall_mem_append.mpr ⟨wsL_law0_r10_in, List.forall_mem_append.mpr ⟨wsL_law0_r11_in, List.forall_mem_append.mpr ⟨wsL_law0_r12_in, List.forall_mem_append.mpr ⟨wsL_law0_r13_in, List.forall_mem_append.mpr ⟨wsL_law0_r14_in, List.forall_mem_append.mpr ⟨wsL_law0_r15_in, List.forall_mem_append.mpr ⟨wsL_law0_r16_in, List.forall_mem_append.mpr ⟨wsL_law0_r17_in, List.forall_mem_append.mpr ⟨wsL_law0_r18_in, List.forall_mem_append.mpr ⟨wsL_law0_r19_in, List.forall_mem_append.mpr ⟨wsL_law0_r20_in, List.forall_mem_append.mpr ⟨wsL_law0_r21_in, wsL_law0_r22_in⟩⟩⟩⟩⟩⟩⟩⟩⟩⟩⟩⟩⟩⟩⟩⟩⟩⟩⟩⟩⟩, wsX80_tin⟩, wsX20_tin⟩, wsX10_tin⟩, wsX00_tin⟩, wsX60_tin⟩, wsX70_tin⟩, wsX30_tin⟩, fun _ h => nomatch h⟩
theorem wsL_law_x0 : ∀ w ∈ (vx_atS RX8 236 "java/lang/IndexOutOfBoundsException" ["java/lang/RuntimeException", "java/lang/Exception"]).filter goodWord, w ∈ lw_tbl := by decide +kernel
theorem wsL_law_x1 : ∀ w ∈ (vx_atS RX8 111 "java/lang/IllegalArgumentException" ["java/lang/RuntimeException", "java/lang/Exception"]).filter goodWord, w ∈ lw_tbl := by decide +kernel
theorem wsL_law_x2 : ∀ w ∈ (vx_atS RX8 93 "java/lang/IllegalStateException" ["java/lang/RuntimeException", "java/lang/Exception"]).filter goodWord, w ∈ lw_tbl := by decide +kernel
theorem wsL_law_in : ∀ w ∈ wsL_law, w ∈ lw_tbl := fun w h => (List.mem_append.mp h).elim (fun h => (List.mem_append.mp h).elim (fun h => (List.mem_append.mp h).elim (fun h => wsL_law_in0 w h) (fun h => wsL_law_x0 w h)) (fun h => wsL_law_x1 w h)) (fun h => wsL_law_x2 w h)
theorem inlX0 : ∀ w ∈ wsX00, w ∈ wsL_law := fun _ h => List.mem_append_left _ (List.mem_append_left _ (List.mem_append_left _ (List.mem_append_left _ (List.mem_append_left _ (List.mem_append_left _ (List.mem_append_left _ (List.mem_append_right _ h)))))))
theorem inX0 : ∀ w ∈ wsX00, w ∈ lw_tbl := fun w h => wsL_law_in w (inlX0 w h)
theorem inlX1 : ∀ w ∈ wsX10, w ∈ wsL_law := fun _ h => List.mem_append_left _ (List.mem_append_left _ (List.mem_append_left _ (List.mem_append_left _ (List.mem_append_left _ (List.mem_append_left _ (List.mem_append_left _ (List.mem_append_left _ (List.mem_append_right _ h))))))))
theorem inX1 : ∀ w ∈ wsX10, w ∈ lw_tbl := fun w h => wsL_law_in w (inlX1 w h)
theorem inlX2 : ∀ w ∈ wsX20, w ∈ wsL_law := fun _ h => List.mem_append_left _ (List.mem_append_left _ (List.mem_append_left _ (List.mem_append_left _ (List.mem_append_left _ (List.mem_append_left _ (List.mem_append_left _ (List.mem_append_left _ (List.mem_append_left _ (List.mem_append_right _ h)))))))))
theorem inX2 : ∀ w ∈ wsX20, w ∈ lw_tbl := fun w h => wsL_law_in w (inlX2 w h)
theorem inlX3 : ∀ w ∈ wsX30, w ∈ wsL_law := fun _ h => List.mem_append_left _ (List.mem_append_left _ (List.mem_append_left _ (List.mem_append_left _ (List.mem_append_right _ h))))
theorem inX3 : ∀ w ∈ wsX30, w ∈ lw_tbl := fun w h => wsL_law_in w (inlX3 w h)
theorem inX4 : ∀ w ∈ wsX40, w ∈ lw_tbl := by decide +kernel
theorem inX5 : ∀ w ∈ wsX50, w ∈ lw_tbl := by decide +kernel
theorem inlX6 : ∀ w ∈ wsX60, w ∈ wsL_law := fun _ h => List.mem_append_left _ (List.mem_append_left _ (List.mem_append_left _ (List.mem_append_left _ (List.mem_append_left _ (List.mem_append_left _ (List.mem_append_right _ h))))))
theorem inX6 : ∀ w ∈ wsX60, w ∈ lw_tbl := fun w h => wsL_law_in w (inlX6 w h)
theorem inlX7 : ∀ w ∈ wsX70, w ∈ wsL_law := fun _ h => List.mem_append_left _ (List.mem_append_left _ (List.mem_append_left _ (List.mem_append_left _ (List.mem_append_left _ (List.mem_append_right _ h)))))
theorem inX7 : ∀ w ∈ wsX70, w ∈ lw_tbl := fun w h => wsL_law_in w (inlX7 w h)
theorem inlX8 : ∀ w ∈ wsX80, w ∈ wsL_law := fun _ h => List.mem_append_left _ (List.mem_append_left _ (List.mem_append_left _ (List.mem_append_left _ (List.mem_append_left _ (List.mem_append_left _ (List.mem_append_left _ (List.mem_append_left _ (List.mem_append_left _ (List.mem_append_left _ (List.mem_append_right _ h))))))))))
theorem inX8 : ∀ w ∈ wsX80, w ∈ lw_tbl := fun w h => wsL_law_in w (inlX8 w h)
theorem inX9 : ∀ w ∈ wsX90, w ∈ lw_tbl := by decide +kernel
theorem inJ6 : ∀ w ∈ wsJ60, w ∈ lw_tbl := by decide +kernel
theorem inJ9 : ∀ w ∈ wsJ90, w ∈ lw_tbl := by decide +kernel
theorem inJ0 : ∀ w ∈ wsJ00, w ∈ lw_tbl := by decide +kernel
theorem dX0_init_0 : decode cX0_init 0 = .ok (.aload_n 0, 1) := by decide +kernel
theorem dX0_init_1 : decode cX0_init 1 = .ok (.invokespecial 3, 3) := by decide +kernel
theorem dX0_init_4 : decode cX0_init 4 = .ok (.aload_n 0, 1) := by decide +kernel
theorem dX0_init_5 : decode cX0_init 5 = .ok (.bipush 65, 2) := by decide +kernel
theorem dX0_init_7 : decode cX0_init 7 = .ok (.newarray .int, 2) := by decide +kernel
theorem dX0_init_9 : decode cX0_init 9 = .ok (.putfield 9, 3) := by decide +kernel
theorem dX0_init_12 : decode cX0_init 12 = .ok (.return_, 1) := by decide +kernel
set_option maxRecDepth 20000 in
theorem ggX0_longest_X8_put : GoodIn wsX0_longest wsX8_put := goodIn_r _ [4] (by decide +kernel) (by decide +kernel)
set_option maxRecDepth 20000 in
theorem gX0_longest_X8_put_n15 : GoodIn wsX0_longest (wsX8_put) := ggX0_longest_X8_put
set_option maxRecDepth 20000 in
theorem ggX0_longest_X0_widened : GoodIn wsX0_longest wsX0_widened := goodIn_r _ [9, 1, 10, 11, 12, 13, 14, 15, 16, 3, 17, 18, 19, 20] (by decide +kernel) (by decide +kernel)
set_option maxRecDepth 20000 in
theorem gX0_longest_X0_widened : GoodIn wsX0_longest (wsV RX0 19 RX0 yX0_widened wsX0_widened) := goodIn_app (goodIn_of _ (by decide +kernel)) ggX0_longest_X0_widened
set_option maxRecDepth 20000 in
theorem ggX0_longest_X8_at : GoodIn wsX0_longest wsX8_at := goodIn_r _ [17] (by decide +kernel) (by decide +kernel)
set_option maxRecDepth 20000 in
theorem gX0_longest_X8_at_n23 : GoodIn wsX0_longest (wsX8_at) := ggX0_longest_X8_at
theorem dX0_longest_0 : decode cX0_longest 0 = .ok (.aload_n 0, 1) := by decide +kernel
theorem dX0_longest_1 : decode cX0_longest 1 = .ok (.getfield 9, 3) := by decide +kernel
theorem dX0_longest_4 : decode cX0_longest 4 = .ok (.iconst 1, 1) := by decide +kernel
theorem dX0_longest_5 : decode cX0_longest 5 = .ok (.iconst 0, 1) := by decide +kernel
theorem dX0_longest_6 : decode cX0_longest 6 = .ok (.invokestatic 15, 3) := by decide +kernel
theorem dX0_longest_9 : decode cX0_longest 9 = .ok (.iconst 1, 1) := by decide +kernel
theorem dX0_longest_10 : decode cX0_longest 10 = .ok (.istore 4, 2) := by decide +kernel
theorem dX0_longest_12 : decode cX0_longest 12 = .ok (.iload 4, 2) := by decide +kernel
theorem dX0_longest_14 : decode cX0_longest 14 = .ok (.iload_n 3, 1) := by decide +kernel
theorem dX0_longest_15 : decode cX0_longest 15 = .ok (.iload_n 2, 1) := by decide +kernel
theorem dX0_longest_16 : decode cX0_longest 16 = .ok (.isub, 1) := by decide +kernel
theorem dX0_longest_17 : decode cX0_longest 17 = .ok (.if_icmp .ge 28, 3) := by decide +kernel
theorem dX0_longest_20 : decode cX0_longest 20 = .ok (.aload_n 0, 1) := by decide +kernel
theorem dX0_longest_21 : decode cX0_longest 21 = .ok (.getfield 9, 3) := by decide +kernel
theorem dX0_longest_24 : decode cX0_longest 24 = .ok (.iload 4, 2) := by decide +kernel
theorem dX0_longest_26 : decode cX0_longest 26 = .ok (.iconst 1, 1) := by decide +kernel
theorem dX0_longest_27 : decode cX0_longest 27 = .ok (.iadd, 1) := by decide +kernel
theorem dX0_longest_28 : decode cX0_longest 28 = .ok (.aload_n 0, 1) := by decide +kernel
theorem dX0_longest_29 : decode cX0_longest 29 = .ok (.aload_n 1, 1) := by decide +kernel
theorem dX0_longest_30 : decode cX0_longest 30 = .ok (.iload_n 2, 1) := by decide +kernel
theorem dX0_longest_31 : decode cX0_longest 31 = .ok (.iload 4, 2) := by decide +kernel
theorem dX0_longest_33 : decode cX0_longest 33 = .ok (.invokevirtual 19, 3) := by decide +kernel
theorem dX0_longest_36 : decode cX0_longest 36 = .ok (.invokestatic 15, 3) := by decide +kernel
theorem dX0_longest_39 : decode cX0_longest 39 = .ok (.iinc 4 1, 3) := by decide +kernel
theorem dX0_longest_42 : decode cX0_longest 42 = .ok (.goto (-30), 3) := by decide +kernel
theorem dX0_longest_45 : decode cX0_longest 45 = .ok (.aload_n 0, 1) := by decide +kernel
theorem dX0_longest_46 : decode cX0_longest 46 = .ok (.getfield 9, 3) := by decide +kernel
theorem dX0_longest_49 : decode cX0_longest 49 = .ok (.iload_n 3, 1) := by decide +kernel
theorem dX0_longest_50 : decode cX0_longest 50 = .ok (.iload_n 2, 1) := by decide +kernel
theorem dX0_longest_51 : decode cX0_longest 51 = .ok (.isub, 1) := by decide +kernel
theorem dX0_longest_52 : decode cX0_longest 52 = .ok (.invokestatic 23, 3) := by decide +kernel
theorem dX0_longest_55 : decode cX0_longest 55 = .ok (.ireturn, 1) := by decide +kernel
set_option maxRecDepth 20000 in
theorem ggX0_widened_X2_letter : GoodIn wsX0_widened wsX2_letter := goodIn_r _ [6, 7, 8, 9, 10, 12, 13] (by decide +kernel) (by decide +kernel)
set_option maxRecDepth 20000 in
theorem gX0_widened_X2_letter : GoodIn wsX0_widened (wsV RX0 27 RX2 yX2_letter wsX2_letter) := goodIn_app (goodIn_of _ (by decide +kernel)) ggX0_widened_X2_letter
set_option maxRecDepth 20000 in
theorem ggX0_widened_X8_at : GoodIn wsX0_widened wsX8_at := goodIn_r _ [10] (by decide +kernel) (by decide +kernel)
set_option maxRecDepth 20000 in
theorem gX0_widened_X8_at_n23 : GoodIn wsX0_widened (wsX8_at) := ggX0_widened_X8_at
theorem dX0_widened_0 : decode cX0_widened 0 = .ok (.aload_n 1, 1) := by decide +kernel
theorem dX0_widened_1 : decode cX0_widened 1 = .ok (.iload_n 2, 1) := by decide +kernel
theorem dX0_widened_2 : decode cX0_widened 2 = .ok (.iload_n 3, 1) := by decide +kernel
theorem dX0_widened_3 : decode cX0_widened 3 = .ok (.iadd, 1) := by decide +kernel
theorem dX0_widened_4 : decode cX0_widened 4 = .ok (.invokevirtual 27, 3) := by decide +kernel
theorem dX0_widened_7 : decode cX0_widened 7 = .ok (.istore 4, 2) := by decide +kernel
theorem dX0_widened_9 : decode cX0_widened 9 = .ok (.aload_n 0, 1) := by decide +kernel
theorem dX0_widened_10 : decode cX0_widened 10 = .ok (.getfield 9, 3) := by decide +kernel
theorem dX0_widened_13 : decode cX0_widened 13 = .ok (.iload_n 3, 1) := by decide +kernel
theorem dX0_widened_14 : decode cX0_widened 14 = .ok (.invokestatic 23, 3) := by decide +kernel
theorem dX0_widened_17 : decode cX0_widened 17 = .ok (.istore 5, 2) := by decide +kernel
theorem dX0_widened_19 : decode cX0_widened 19 = .ok (.iconst 0, 1) := by decide +kernel
theorem dX0_widened_20 : decode cX0_widened 20 = .ok (.istore 6, 2) := by decide +kernel
theorem dX0_widened_22 : decode cX0_widened 22 = .ok (.iload 6, 2) := by decide +kernel
theorem dX0_widened_24 : decode cX0_widened 24 = .ok (.iload_n 3, 1) := by decide +kernel
theorem dX0_widened_25 : decode cX0_widened 25 = .ok (.if_icmp .ge 38, 3) := by decide +kernel
theorem dX0_widened_28 : decode cX0_widened 28 = .ok (.iload 5, 2) := by decide +kernel
theorem dX0_widened_30 : decode cX0_widened 30 = .ok (.ifCond .le 33, 3) := by decide +kernel
theorem dX0_widened_33 : decode cX0_widened 33 = .ok (.aload_n 1, 1) := by decide +kernel
theorem dX0_widened_34 : decode cX0_widened 34 = .ok (.iload_n 2, 1) := by decide +kernel
theorem dX0_widened_35 : decode cX0_widened 35 = .ok (.iload 5, 2) := by decide +kernel
theorem dX0_widened_37 : decode cX0_widened 37 = .ok (.iadd, 1) := by decide +kernel
theorem dX0_widened_38 : decode cX0_widened 38 = .ok (.invokevirtual 27, 3) := by decide +kernel
theorem dX0_widened_41 : decode cX0_widened 41 = .ok (.iload 4, 2) := by decide +kernel
theorem dX0_widened_43 : decode cX0_widened 43 = .ok (.if_icmp .eq 20, 3) := by decide +kernel
theorem dX0_widened_46 : decode cX0_widened 46 = .ok (.aload_n 0, 1) := by decide +kernel
theorem dX0_widened_47 : decode cX0_widened 47 = .ok (.getfield 9, 3) := by decide +kernel
theorem dX0_widened_50 : decode cX0_widened 50 = .ok (.iload 5, 2) := by decide +kernel
theorem dX0_widened_52 : decode cX0_widened 52 = .ok (.invokestatic 23, 3) := by decide +kernel
theorem dX0_widened_55 : decode cX0_widened 55 = .ok (.istore 5, 2) := by decide +kernel
theorem dX0_widened_57 : decode cX0_widened 57 = .ok (.iinc 6 1, 3) := by decide +kernel
theorem dX0_widened_60 : decode cX0_widened 60 = .ok (.goto (-38), 3) := by decide +kernel
theorem dX0_widened_63 : decode cX0_widened 63 = .ok (.aload_n 1, 1) := by decide +kernel
theorem dX0_widened_64 : decode cX0_widened 64 = .ok (.iload_n 2, 1) := by decide +kernel
theorem dX0_widened_65 : decode cX0_widened 65 = .ok (.iload 5, 2) := by decide +kernel
theorem dX0_widened_67 : decode cX0_widened 67 = .ok (.iadd, 1) := by decide +kernel
theorem dX0_widened_68 : decode cX0_widened 68 = .ok (.invokevirtual 27, 3) := by decide +kernel
theorem dX0_widened_71 : decode cX0_widened 71 = .ok (.iload 4, 2) := by decide +kernel
theorem dX0_widened_73 : decode cX0_widened 73 = .ok (.if_icmp .ne 10, 3) := by decide +kernel
theorem dX0_widened_76 : decode cX0_widened 76 = .ok (.iload 5, 2) := by decide +kernel
theorem dX0_widened_78 : decode cX0_widened 78 = .ok (.iconst 1, 1) := by decide +kernel
theorem dX0_widened_79 : decode cX0_widened 79 = .ok (.iadd, 1) := by decide +kernel
theorem dX0_widened_80 : decode cX0_widened 80 = .ok (.goto 4, 3) := by decide +kernel
theorem dX0_widened_83 : decode cX0_widened 83 = .ok (.iconst 0, 1) := by decide +kernel
theorem dX0_widened_84 : decode cX0_widened 84 = .ok (.ireturn, 1) := by decide +kernel
set_option maxRecDepth 20000 in
theorem ggX0_leastPeriod_X0_longest : GoodIn wsX0_leastPeriod wsX0_longest := goodIn_r _ [5, 6, 7, 8, 9, 10, 11, 12, 4, 13, 14, 15, 16, 17, 18, 19, 20, 21, 22, 23, 24] (by decide +kernel) (by decide +kernel)
set_option maxRecDepth 20000 in
theorem gX0_leastPeriod_X0_longest : GoodIn wsX0_leastPeriod (wsV RX0 33 RX0 yX0_longest wsX0_longest) := goodIn_app (goodIn_of _ (by decide +kernel)) ggX0_leastPeriod_X0_longest
theorem dX0_leastPeriod_0 : decode cX0_leastPeriod 0 = .ok (.iload_n 3, 1) := by decide +kernel
theorem dX0_leastPeriod_1 : decode cX0_leastPeriod 1 = .ok (.iload_n 2, 1) := by decide +kernel
theorem dX0_leastPeriod_2 : decode cX0_leastPeriod 2 = .ok (.isub, 1) := by decide +kernel
theorem dX0_leastPeriod_3 : decode cX0_leastPeriod 3 = .ok (.aload_n 0, 1) := by decide +kernel
theorem dX0_leastPeriod_4 : decode cX0_leastPeriod 4 = .ok (.aload_n 1, 1) := by decide +kernel
theorem dX0_leastPeriod_5 : decode cX0_leastPeriod 5 = .ok (.iload_n 2, 1) := by decide +kernel
theorem dX0_leastPeriod_6 : decode cX0_leastPeriod 6 = .ok (.iload_n 3, 1) := by decide +kernel
theorem dX0_leastPeriod_7 : decode cX0_leastPeriod 7 = .ok (.invokevirtual 33, 3) := by decide +kernel
theorem dX0_leastPeriod_10 : decode cX0_leastPeriod 10 = .ok (.isub, 1) := by decide +kernel
theorem dX0_leastPeriod_11 : decode cX0_leastPeriod 11 = .ok (.ireturn, 1) := by decide +kernel
set_option maxRecDepth 20000 in
theorem ggX0_countAll_X0_longest : GoodIn wsX0_countAll wsX0_longest := goodIn_r _ [6, 1, 7, 8, 9, 10, 11, 12, 5, 13, 14, 15, 16, 17, 18, 19, 20, 21, 22, 23, 24] (by decide +kernel) (by decide +kernel)
set_option maxRecDepth 20000 in
theorem gX0_countAll_X0_longest : GoodIn wsX0_countAll (wsV RX0 33 RX0 yX0_longest wsX0_longest) := goodIn_app (goodIn_of _ (by decide +kernel)) ggX0_countAll_X0_longest
set_option maxRecDepth 20000 in
theorem ggX0_countAll_X8_at : GoodIn wsX0_countAll wsX8_at := goodIn_r _ [21] (by decide +kernel) (by decide +kernel)
set_option maxRecDepth 20000 in
theorem gX0_countAll_X8_at_n23 : GoodIn wsX0_countAll (wsX8_at) := ggX0_countAll_X8_at
theorem dX0_countAll_0 : decode cX0_countAll 0 = .ok (.aload_n 0, 1) := by decide +kernel
theorem dX0_countAll_1 : decode cX0_countAll 1 = .ok (.aload_n 1, 1) := by decide +kernel
theorem dX0_countAll_2 : decode cX0_countAll 2 = .ok (.iload_n 2, 1) := by decide +kernel
theorem dX0_countAll_3 : decode cX0_countAll 3 = .ok (.iload_n 3, 1) := by decide +kernel
theorem dX0_countAll_4 : decode cX0_countAll 4 = .ok (.invokevirtual 33, 3) := by decide +kernel
theorem dX0_countAll_7 : decode cX0_countAll 7 = .ok (.istore 4, 2) := by decide +kernel
theorem dX0_countAll_9 : decode cX0_countAll 9 = .ok (.iconst 1, 1) := by decide +kernel
theorem dX0_countAll_10 : decode cX0_countAll 10 = .ok (.istore 5, 2) := by decide +kernel
theorem dX0_countAll_12 : decode cX0_countAll 12 = .ok (.iload 4, 2) := by decide +kernel
theorem dX0_countAll_14 : decode cX0_countAll 14 = .ok (.ifCond .le 27, 3) := by decide +kernel
theorem dX0_countAll_17 : decode cX0_countAll 17 = .ok (.iload 5, 2) := by decide +kernel
theorem dX0_countAll_19 : decode cX0_countAll 19 = .ok (.bipush 64, 2) := by decide +kernel
theorem dX0_countAll_21 : decode cX0_countAll 21 = .ok (.if_icmp .ge 20, 3) := by decide +kernel
theorem dX0_countAll_24 : decode cX0_countAll 24 = .ok (.aload_n 0, 1) := by decide +kernel
theorem dX0_countAll_25 : decode cX0_countAll 25 = .ok (.getfield 9, 3) := by decide +kernel
theorem dX0_countAll_28 : decode cX0_countAll 28 = .ok (.iload 4, 2) := by decide +kernel
theorem dX0_countAll_30 : decode cX0_countAll 30 = .ok (.invokestatic 23, 3) := by decide +kernel
theorem dX0_countAll_33 : decode cX0_countAll 33 = .ok (.istore 4, 2) := by decide +kernel
theorem dX0_countAll_35 : decode cX0_countAll 35 = .ok (.iinc 5 1, 3) := by decide +kernel
theorem dX0_countAll_38 : decode cX0_countAll 38 = .ok (.goto (-26), 3) := by decide +kernel
theorem dX0_countAll_41 : decode cX0_countAll 41 = .ok (.iload 5, 2) := by decide +kernel
theorem dX0_countAll_43 : decode cX0_countAll 43 = .ok (.ireturn, 1) := by decide +kernel
set_option maxRecDepth 20000 in
theorem ggX0_rootSize_X0_leastPeriod : GoodIn wsX0_rootSize wsX0_leastPeriod := goodIn_r _ [5, 6, 7, 8, 4, 9, 10, 11, 12, 13, 14, 15, 16, 17, 18, 19, 20, 21, 22, 23, 24, 25, 26, 27, 28] (by decide +kernel) (by decide +kernel)
set_option maxRecDepth 20000 in
theorem gX0_rootSize_X0_leastPeriod : GoodIn wsX0_rootSize (wsV RX0 36 RX0 yX0_leastPeriod wsX0_leastPeriod) := goodIn_app (goodIn_of _ (by decide +kernel)) ggX0_rootSize_X0_leastPeriod
theorem dX0_rootSize_0 : decode cX0_rootSize 0 = .ok (.aload_n 0, 1) := by decide +kernel
theorem dX0_rootSize_1 : decode cX0_rootSize 1 = .ok (.aload_n 1, 1) := by decide +kernel
theorem dX0_rootSize_2 : decode cX0_rootSize 2 = .ok (.iload_n 2, 1) := by decide +kernel
theorem dX0_rootSize_3 : decode cX0_rootSize 3 = .ok (.iload_n 3, 1) := by decide +kernel
theorem dX0_rootSize_4 : decode cX0_rootSize 4 = .ok (.invokevirtual 36, 3) := by decide +kernel
theorem dX0_rootSize_7 : decode cX0_rootSize 7 = .ok (.istore 4, 2) := by decide +kernel
theorem dX0_rootSize_9 : decode cX0_rootSize 9 = .ok (.iload 4, 2) := by decide +kernel
theorem dX0_rootSize_11 : decode cX0_rootSize 11 = .ok (.ifCond .le 17, 3) := by decide +kernel
theorem dX0_rootSize_14 : decode cX0_rootSize 14 = .ok (.iload_n 3, 1) := by decide +kernel
theorem dX0_rootSize_15 : decode cX0_rootSize 15 = .ok (.iload_n 2, 1) := by decide +kernel
theorem dX0_rootSize_16 : decode cX0_rootSize 16 = .ok (.isub, 1) := by decide +kernel
theorem dX0_rootSize_17 : decode cX0_rootSize 17 = .ok (.iload 4, 2) := by decide +kernel
theorem dX0_rootSize_19 : decode cX0_rootSize 19 = .ok (.irem, 1) := by decide +kernel
theorem dX0_rootSize_20 : decode cX0_rootSize 20 = .ok (.ifCond .ne 8, 3) := by decide +kernel
theorem dX0_rootSize_23 : decode cX0_rootSize 23 = .ok (.iload 4, 2) := by decide +kernel
theorem dX0_rootSize_25 : decode cX0_rootSize 25 = .ok (.goto 6, 3) := by decide +kernel
theorem dX0_rootSize_28 : decode cX0_rootSize 28 = .ok (.iload_n 3, 1) := by decide +kernel
theorem dX0_rootSize_29 : decode cX0_rootSize 29 = .ok (.iload_n 2, 1) := by decide +kernel
theorem dX0_rootSize_30 : decode cX0_rootSize 30 = .ok (.isub, 1) := by decide +kernel
theorem dX0_rootSize_31 : decode cX0_rootSize 31 = .ok (.ireturn, 1) := by decide +kernel
theorem dX1_init_0 : decode cX1_init 0 = .ok (.aload_n 0, 1) := by decide +kernel
theorem dX1_init_1 : decode cX1_init 1 = .ok (.invokespecial 3, 3) := by decide +kernel
theorem dX1_init_4 : decode cX1_init 4 = .ok (.aload_n 0, 1) := by decide +kernel
theorem dX1_init_5 : decode cX1_init 5 = .ok (.bipush 65, 2) := by decide +kernel
theorem dX1_init_7 : decode cX1_init 7 = .ok (.newarray .int, 2) := by decide +kernel
theorem dX1_init_9 : decode cX1_init 9 = .ok (.putfield 9, 3) := by decide +kernel
theorem dX1_init_12 : decode cX1_init 12 = .ok (.aload_n 0, 1) := by decide +kernel
theorem dX1_init_13 : decode cX1_init 13 = .ok (.iconst 0, 1) := by decide +kernel
theorem dX1_init_14 : decode cX1_init 14 = .ok (.putfield 15, 3) := by decide +kernel
theorem dX1_init_17 : decode cX1_init 17 = .ok (.return_, 1) := by decide +kernel
theorem dX1_count_0 : decode cX1_count 0 = .ok (.aload_n 0, 1) := by decide +kernel
theorem dX1_count_1 : decode cX1_count 1 = .ok (.getfield 15, 3) := by decide +kernel
theorem dX1_count_4 : decode cX1_count 4 = .ok (.ireturn, 1) := by decide +kernel
set_option maxRecDepth 20000 in
theorem ggX1_start_X8_at : GoodIn wsX1_start wsX8_at := goodIn_r _ [4] (by decide +kernel) (by decide +kernel)
set_option maxRecDepth 20000 in
theorem gX1_start_X8_at_n19 : GoodIn wsX1_start (wsX8_at) := ggX1_start_X8_at
theorem dX1_start_0 : decode cX1_start 0 = .ok (.aload_n 0, 1) := by decide +kernel
theorem dX1_start_1 : decode cX1_start 1 = .ok (.getfield 9, 3) := by decide +kernel
theorem dX1_start_4 : decode cX1_start 4 = .ok (.iload_n 1, 1) := by decide +kernel
theorem dX1_start_5 : decode cX1_start 5 = .ok (.invokestatic 19, 3) := by decide +kernel
theorem dX1_start_8 : decode cX1_start 8 = .ok (.ireturn, 1) := by decide +kernel
set_option maxRecDepth 20000 in
theorem ggX1_find_X2_count : GoodIn wsX1_find wsX2_count := goodIn_r _ [7, 8, 25, 26] (by decide +kernel) (by decide +kernel)
set_option maxRecDepth 20000 in
theorem gX1_find_X2_count : GoodIn wsX1_find (wsV RX1 23 RX2 yX2_count wsX2_count) := goodIn_app (goodIn_of _ (by decide +kernel)) ggX1_find_X2_count
set_option maxRecDepth 20000 in
theorem ggX1_find_X8_put : GoodIn wsX1_find wsX8_put := goodIn_r _ [11] (by decide +kernel) (by decide +kernel)
set_option maxRecDepth 20000 in
theorem gX1_find_X8_put_n28 : GoodIn wsX1_find (wsX8_put) := ggX1_find_X8_put
set_option maxRecDepth 20000 in
theorem ggX1_find_X1_firstLength : GoodIn wsX1_find wsX1_firstLength := goodIn_r _ [15, 16, 17, 18, 6, 19, 20, 21, 10, 22, 25, 26] (by decide +kernel) (by decide +kernel)
set_option maxRecDepth 20000 in
theorem gX1_find_X1_firstLength : GoodIn wsX1_find (va_wsS RX1 32 yX1_firstLength wsX1_firstLength) := goodIn_app (goodIn_of _ (by decide +kernel)) ggX1_find_X1_firstLength
theorem dX1_find_0 : decode cX1_find 0 = .ok (.iconst 0, 1) := by decide +kernel
theorem dX1_find_1 : decode cX1_find 1 = .ok (.istore_n 2, 1) := by decide +kernel
theorem dX1_find_2 : decode cX1_find 2 = .ok (.aload_n 0, 1) := by decide +kernel
theorem dX1_find_3 : decode cX1_find 3 = .ok (.iconst 0, 1) := by decide +kernel
theorem dX1_find_4 : decode cX1_find 4 = .ok (.putfield 15, 3) := by decide +kernel
theorem dX1_find_7 : decode cX1_find 7 = .ok (.iload_n 2, 1) := by decide +kernel
theorem dX1_find_8 : decode cX1_find 8 = .ok (.aload_n 1, 1) := by decide +kernel
theorem dX1_find_9 : decode cX1_find 9 = .ok (.invokevirtual 23, 3) := by decide +kernel
theorem dX1_find_12 : decode cX1_find 12 = .ok (.if_icmp .ge 50, 3) := by decide +kernel
theorem dX1_find_15 : decode cX1_find 15 = .ok (.aload_n 0, 1) := by decide +kernel
theorem dX1_find_16 : decode cX1_find 16 = .ok (.getfield 15, 3) := by decide +kernel
theorem dX1_find_19 : decode cX1_find 19 = .ok (.bipush 64, 2) := by decide +kernel
theorem dX1_find_21 : decode cX1_find 21 = .ok (.if_icmp .ge 41, 3) := by decide +kernel
theorem dX1_find_24 : decode cX1_find 24 = .ok (.aload_n 0, 1) := by decide +kernel
theorem dX1_find_25 : decode cX1_find 25 = .ok (.getfield 9, 3) := by decide +kernel
theorem dX1_find_28 : decode cX1_find 28 = .ok (.aload_n 0, 1) := by decide +kernel
theorem dX1_find_29 : decode cX1_find 29 = .ok (.getfield 15, 3) := by decide +kernel
theorem dX1_find_32 : decode cX1_find 32 = .ok (.iload_n 2, 1) := by decide +kernel
theorem dX1_find_33 : decode cX1_find 33 = .ok (.invokestatic 28, 3) := by decide +kernel
theorem dX1_find_36 : decode cX1_find 36 = .ok (.aload_n 0, 1) := by decide +kernel
theorem dX1_find_37 : decode cX1_find 37 = .ok (.dup, 1) := by decide +kernel
theorem dX1_find_38 : decode cX1_find 38 = .ok (.getfield 15, 3) := by decide +kernel
theorem dX1_find_41 : decode cX1_find 41 = .ok (.iconst 1, 1) := by decide +kernel
theorem dX1_find_42 : decode cX1_find 42 = .ok (.iadd, 1) := by decide +kernel
theorem dX1_find_43 : decode cX1_find 43 = .ok (.putfield 15, 3) := by decide +kernel
theorem dX1_find_46 : decode cX1_find 46 = .ok (.iload_n 2, 1) := by decide +kernel
theorem dX1_find_47 : decode cX1_find 47 = .ok (.aload_n 1, 1) := by decide +kernel
theorem dX1_find_48 : decode cX1_find 48 = .ok (.iload_n 2, 1) := by decide +kernel
theorem dX1_find_49 : decode cX1_find 49 = .ok (.aload_n 1, 1) := by decide +kernel
theorem dX1_find_50 : decode cX1_find 50 = .ok (.invokevirtual 23, 3) := by decide +kernel
theorem dX1_find_53 : decode cX1_find 53 = .ok (.iconst 0, 1) := by decide +kernel
theorem dX1_find_54 : decode cX1_find 54 = .ok (.invokestatic 32, 3) := by decide +kernel
theorem dX1_find_57 : decode cX1_find 57 = .ok (.iadd, 1) := by decide +kernel
theorem dX1_find_58 : decode cX1_find 58 = .ok (.istore_n 2, 1) := by decide +kernel
theorem dX1_find_59 : decode cX1_find 59 = .ok (.goto (-52), 3) := by decide +kernel
theorem dX1_find_62 : decode cX1_find 62 = .ok (.aload_n 0, 1) := by decide +kernel
theorem dX1_find_63 : decode cX1_find 63 = .ok (.getfield 9, 3) := by decide +kernel
theorem dX1_find_66 : decode cX1_find 66 = .ok (.aload_n 0, 1) := by decide +kernel
theorem dX1_find_67 : decode cX1_find 67 = .ok (.getfield 15, 3) := by decide +kernel
theorem dX1_find_70 : decode cX1_find 70 = .ok (.aload_n 1, 1) := by decide +kernel
theorem dX1_find_71 : decode cX1_find 71 = .ok (.invokevirtual 23, 3) := by decide +kernel
theorem dX1_find_74 : decode cX1_find 74 = .ok (.invokestatic 28, 3) := by decide +kernel
theorem dX1_find_77 : decode cX1_find 77 = .ok (.return_, 1) := by decide +kernel
set_option maxRecDepth 20000 in
theorem ggX1_numberOver_X8_at : GoodIn wsX1_numberOver wsX8_at := goodIn_r _ [5] (by decide +kernel) (by decide +kernel)
set_option maxRecDepth 20000 in
theorem gX1_numberOver_X8_at_n19 : GoodIn wsX1_numberOver (wsX8_at) := ggX1_numberOver_X8_at
theorem dX1_numberOver_0 : decode cX1_numberOver 0 = .ok (.iconst 0, 1) := by decide +kernel
theorem dX1_numberOver_1 : decode cX1_numberOver 1 = .ok (.istore_n 2, 1) := by decide +kernel
theorem dX1_numberOver_2 : decode cX1_numberOver 2 = .ok (.iload_n 2, 1) := by decide +kernel
theorem dX1_numberOver_3 : decode cX1_numberOver 3 = .ok (.aload_n 0, 1) := by decide +kernel
theorem dX1_numberOver_4 : decode cX1_numberOver 4 = .ok (.getfield 15, 3) := by decide +kernel
theorem dX1_numberOver_7 : decode cX1_numberOver 7 = .ok (.iconst 1, 1) := by decide +kernel
theorem dX1_numberOver_8 : decode cX1_numberOver 8 = .ok (.isub, 1) := by decide +kernel
theorem dX1_numberOver_9 : decode cX1_numberOver 9 = .ok (.if_icmp .ge 23, 3) := by decide +kernel
theorem dX1_numberOver_12 : decode cX1_numberOver 12 = .ok (.aload_n 0, 1) := by decide +kernel
theorem dX1_numberOver_13 : decode cX1_numberOver 13 = .ok (.getfield 9, 3) := by decide +kernel
theorem dX1_numberOver_16 : decode cX1_numberOver 16 = .ok (.iload_n 2, 1) := by decide +kernel
theorem dX1_numberOver_17 : decode cX1_numberOver 17 = .ok (.iconst 1, 1) := by decide +kernel
theorem dX1_numberOver_18 : decode cX1_numberOver 18 = .ok (.iadd, 1) := by decide +kernel
theorem dX1_numberOver_19 : decode cX1_numberOver 19 = .ok (.invokestatic 19, 3) := by decide +kernel
theorem dX1_numberOver_22 : decode cX1_numberOver 22 = .ok (.iload_n 1, 1) := by decide +kernel
theorem dX1_numberOver_23 : decode cX1_numberOver 23 = .ok (.if_icmp .gt 9, 3) := by decide +kernel
theorem dX1_numberOver_26 : decode cX1_numberOver 26 = .ok (.iinc 2 1, 3) := by decide +kernel
theorem dX1_numberOver_29 : decode cX1_numberOver 29 = .ok (.goto (-27), 3) := by decide +kernel
theorem dX1_numberOver_32 : decode cX1_numberOver 32 = .ok (.iload_n 2, 1) := by decide +kernel
theorem dX1_numberOver_33 : decode cX1_numberOver 33 = .ok (.ireturn, 1) := by decide +kernel
set_option maxRecDepth 20000 in
theorem ggX1_isOneFactor_X1_firstLength : GoodIn wsX1_isOneFactor wsX1_firstLength := goodIn_r _ [4, 5, 6, 7, 8, 9, 10, 11, 12, 13, 14, 15] (by decide +kernel) (by decide +kernel)
set_option maxRecDepth 20000 in
theorem gX1_isOneFactor_X1_firstLength : GoodIn wsX1_isOneFactor (va_wsS RX1 32 yX1_firstLength wsX1_firstLength) := goodIn_app (goodIn_of _ (by decide +kernel)) ggX1_isOneFactor_X1_firstLength
theorem dX1_isOneFactor_0 : decode cX1_isOneFactor 0 = .ok (.aload_n 0, 1) := by decide +kernel
theorem dX1_isOneFactor_1 : decode cX1_isOneFactor 1 = .ok (.iload_n 1, 1) := by decide +kernel
theorem dX1_isOneFactor_2 : decode cX1_isOneFactor 2 = .ok (.iload_n 2, 1) := by decide +kernel
theorem dX1_isOneFactor_3 : decode cX1_isOneFactor 3 = .ok (.iconst 0, 1) := by decide +kernel
theorem dX1_isOneFactor_4 : decode cX1_isOneFactor 4 = .ok (.invokestatic 32, 3) := by decide +kernel
theorem dX1_isOneFactor_7 : decode cX1_isOneFactor 7 = .ok (.iload_n 2, 1) := by decide +kernel
theorem dX1_isOneFactor_8 : decode cX1_isOneFactor 8 = .ok (.iload_n 1, 1) := by decide +kernel
theorem dX1_isOneFactor_9 : decode cX1_isOneFactor 9 = .ok (.isub, 1) := by decide +kernel
theorem dX1_isOneFactor_10 : decode cX1_isOneFactor 10 = .ok (.if_icmp .ne 7, 3) := by decide +kernel
theorem dX1_isOneFactor_13 : decode cX1_isOneFactor 13 = .ok (.iconst 1, 1) := by decide +kernel
theorem dX1_isOneFactor_14 : decode cX1_isOneFactor 14 = .ok (.goto 4, 3) := by decide +kernel
theorem dX1_isOneFactor_17 : decode cX1_isOneFactor 17 = .ok (.iconst 0, 1) := by decide +kernel
theorem dX1_isOneFactor_18 : decode cX1_isOneFactor 18 = .ok (.ireturn, 1) := by decide +kernel
set_option maxRecDepth 20000 in
theorem ggX1_firstLength_X2_letter : GoodIn wsX1_firstLength wsX2_letter := goodIn_r _ [5, 6, 7, 8, 9, 10, 11] (by decide +kernel) (by decide +kernel)
set_option maxRecDepth 20000 in
theorem gX1_firstLength_X2_letter : GoodIn wsX1_firstLength (wsV RX1 36 RX2 yX2_letter wsX2_letter) := goodIn_app (goodIn_of _ (by decide +kernel)) ggX1_firstLength_X2_letter
theorem dX1_firstLength_0 : decode cX1_firstLength 0 = .ok (.iconst 1, 1) := by decide +kernel
theorem dX1_firstLength_1 : decode cX1_firstLength 1 = .ok (.istore 4, 2) := by decide +kernel
theorem dX1_firstLength_3 : decode cX1_firstLength 3 = .ok (.iload_n 1, 1) := by decide +kernel
theorem dX1_firstLength_4 : decode cX1_firstLength 4 = .ok (.iconst 1, 1) := by decide +kernel
theorem dX1_firstLength_5 : decode cX1_firstLength 5 = .ok (.iadd, 1) := by decide +kernel
theorem dX1_firstLength_6 : decode cX1_firstLength 6 = .ok (.istore 5, 2) := by decide +kernel
theorem dX1_firstLength_8 : decode cX1_firstLength 8 = .ok (.iload 5, 2) := by decide +kernel
theorem dX1_firstLength_10 : decode cX1_firstLength 10 = .ok (.iload_n 2, 1) := by decide +kernel
theorem dX1_firstLength_11 : decode cX1_firstLength 11 = .ok (.if_icmp .ge 57, 3) := by decide +kernel
theorem dX1_firstLength_14 : decode cX1_firstLength 14 = .ok (.aload_n 0, 1) := by decide +kernel
theorem dX1_firstLength_15 : decode cX1_firstLength 15 = .ok (.iload 5, 2) := by decide +kernel
theorem dX1_firstLength_17 : decode cX1_firstLength 17 = .ok (.invokevirtual 36, 3) := by decide +kernel
theorem dX1_firstLength_20 : decode cX1_firstLength 20 = .ok (.aload_n 0, 1) := by decide +kernel
theorem dX1_firstLength_21 : decode cX1_firstLength 21 = .ok (.iload 5, 2) := by decide +kernel
theorem dX1_firstLength_23 : decode cX1_firstLength 23 = .ok (.iload 4, 2) := by decide +kernel
theorem dX1_firstLength_25 : decode cX1_firstLength 25 = .ok (.isub, 1) := by decide +kernel
theorem dX1_firstLength_26 : decode cX1_firstLength 26 = .ok (.invokevirtual 36, 3) := by decide +kernel
theorem dX1_firstLength_29 : decode cX1_firstLength 29 = .ok (.isub, 1) := by decide +kernel
theorem dX1_firstLength_30 : decode cX1_firstLength 30 = .ok (.istore 6, 2) := by decide +kernel
theorem dX1_firstLength_32 : decode cX1_firstLength 32 = .ok (.iload_n 3, 1) := by decide +kernel
theorem dX1_firstLength_33 : decode cX1_firstLength 33 = .ok (.ifCond .eq 8, 3) := by decide +kernel
theorem dX1_firstLength_36 : decode cX1_firstLength 36 = .ok (.iload 6, 2) := by decide +kernel
theorem dX1_firstLength_38 : decode cX1_firstLength 38 = .ok (.ineg, 1) := by decide +kernel
theorem dX1_firstLength_39 : decode cX1_firstLength 39 = .ok (.istore 6, 2) := by decide +kernel
theorem dX1_firstLength_41 : decode cX1_firstLength 41 = .ok (.iload 6, 2) := by decide +kernel
theorem dX1_firstLength_43 : decode cX1_firstLength 43 = .ok (.ifCond .ge 6, 3) := by decide +kernel
theorem dX1_firstLength_46 : decode cX1_firstLength 46 = .ok (.iload 4, 2) := by decide +kernel
theorem dX1_firstLength_48 : decode cX1_firstLength 48 = .ok (.ireturn, 1) := by decide +kernel
theorem dX1_firstLength_49 : decode cX1_firstLength 49 = .ok (.iload 6, 2) := by decide +kernel
theorem dX1_firstLength_51 : decode cX1_firstLength 51 = .ok (.ifCond .le 11, 3) := by decide +kernel
theorem dX1_firstLength_54 : decode cX1_firstLength 54 = .ok (.iload 5, 2) := by decide +kernel
theorem dX1_firstLength_56 : decode cX1_firstLength 56 = .ok (.iconst 1, 1) := by decide +kernel
theorem dX1_firstLength_57 : decode cX1_firstLength 57 = .ok (.iadd, 1) := by decide +kernel
theorem dX1_firstLength_58 : decode cX1_firstLength 58 = .ok (.iload_n 1, 1) := by decide +kernel
theorem dX1_firstLength_59 : decode cX1_firstLength 59 = .ok (.isub, 1) := by decide +kernel
theorem dX1_firstLength_60 : decode cX1_firstLength 60 = .ok (.istore 4, 2) := by decide +kernel
theorem dX1_firstLength_62 : decode cX1_firstLength 62 = .ok (.iinc 5 1, 3) := by decide +kernel
theorem dX1_firstLength_65 : decode cX1_firstLength 65 = .ok (.goto (-57), 3) := by decide +kernel
theorem dX1_firstLength_68 : decode cX1_firstLength 68 = .ok (.iload 4, 2) := by decide +kernel
theorem dX1_firstLength_70 : decode cX1_firstLength 70 = .ok (.ireturn, 1) := by decide +kernel
theorem dX2_init_0 : decode cX2_init 0 = .ok (.aload_n 0, 1) := by decide +kernel
theorem dX2_init_1 : decode cX2_init 1 = .ok (.invokespecial 3, 3) := by decide +kernel
theorem dX2_init_4 : decode cX2_init 4 = .ok (.aload_n 0, 1) := by decide +kernel
theorem dX2_init_5 : decode cX2_init 5 = .ok (.bipush 64, 2) := by decide +kernel
theorem dX2_init_7 : decode cX2_init 7 = .ok (.newarray .int, 2) := by decide +kernel
theorem dX2_init_9 : decode cX2_init 9 = .ok (.putfield 9, 3) := by decide +kernel
theorem dX2_init_12 : decode cX2_init 12 = .ok (.aload_n 0, 1) := by decide +kernel
theorem dX2_init_13 : decode cX2_init 13 = .ok (.iconst 0, 1) := by decide +kernel
theorem dX2_init_14 : decode cX2_init 14 = .ok (.putfield 15, 3) := by decide +kernel
theorem dX2_init_17 : decode cX2_init 17 = .ok (.return_, 1) := by decide +kernel
theorem dX2_count_0 : decode cX2_count 0 = .ok (.aload_n 0, 1) := by decide +kernel
theorem dX2_count_1 : decode cX2_count 1 = .ok (.getfield 15, 3) := by decide +kernel
theorem dX2_count_4 : decode cX2_count 4 = .ok (.ireturn, 1) := by decide +kernel
set_option maxRecDepth 20000 in
theorem ggX2_letter_X8_at : GoodIn wsX2_letter wsX8_at := goodIn_r _ [4] (by decide +kernel) (by decide +kernel)
set_option maxRecDepth 20000 in
theorem gX2_letter_X8_at_n19 : GoodIn wsX2_letter (wsX8_at) := ggX2_letter_X8_at
theorem dX2_letter_0 : decode cX2_letter 0 = .ok (.aload_n 0, 1) := by decide +kernel
theorem dX2_letter_1 : decode cX2_letter 1 = .ok (.getfield 9, 3) := by decide +kernel
theorem dX2_letter_4 : decode cX2_letter 4 = .ok (.iload_n 1, 1) := by decide +kernel
theorem dX2_letter_5 : decode cX2_letter 5 = .ok (.invokestatic 19, 3) := by decide +kernel
theorem dX2_letter_8 : decode cX2_letter 8 = .ok (.ireturn, 1) := by decide +kernel
set_option maxRecDepth 20000 in
theorem ggX2_write_X8_put : GoodIn wsX2_write wsX8_put := goodIn_r _ [4] (by decide +kernel) (by decide +kernel)
set_option maxRecDepth 20000 in
theorem gX2_write_X8_put_n23 : GoodIn wsX2_write (wsX8_put) := ggX2_write_X8_put
theorem dX2_write_0 : decode cX2_write 0 = .ok (.aload_n 0, 1) := by decide +kernel
theorem dX2_write_1 : decode cX2_write 1 = .ok (.getfield 9, 3) := by decide +kernel
theorem dX2_write_4 : decode cX2_write 4 = .ok (.iload_n 1, 1) := by decide +kernel
theorem dX2_write_5 : decode cX2_write 5 = .ok (.iload_n 2, 1) := by decide +kernel
theorem dX2_write_6 : decode cX2_write 6 = .ok (.invokestatic 23, 3) := by decide +kernel
theorem dX2_write_9 : decode cX2_write 9 = .ok (.return_, 1) := by decide +kernel
theorem dX2_empty_0 : decode cX2_empty 0 = .ok (.aload_n 0, 1) := by decide +kernel
theorem dX2_empty_1 : decode cX2_empty 1 = .ok (.iconst 0, 1) := by decide +kernel
theorem dX2_empty_2 : decode cX2_empty 2 = .ok (.putfield 15, 3) := by decide +kernel
theorem dX2_empty_5 : decode cX2_empty 5 = .ok (.return_, 1) := by decide +kernel
set_option maxRecDepth 20000 in
theorem ggX2_push_X2_open : GoodIn wsX2_push wsX2_open := goodIn_r _ [6, 1, 7, 8, 9, 10, 11, 12, 13, 14] (by decide +kernel) (by decide +kernel)
set_option maxRecDepth 20000 in
theorem gX2_push_X2_open : GoodIn wsX2_push (wsV RX2 27 RX2 yX2_open wsX2_open) := goodIn_app (goodIn_of _ (by decide +kernel)) ggX2_push_X2_open
theorem dX2_push_0 : decode cX2_push 0 = .ok (.aload_n 0, 1) := by decide +kernel
theorem dX2_push_1 : decode cX2_push 1 = .ok (.aload_n 0, 1) := by decide +kernel
theorem dX2_push_2 : decode cX2_push 2 = .ok (.getfield 15, 3) := by decide +kernel
theorem dX2_push_5 : decode cX2_push 5 = .ok (.iload_n 1, 1) := by decide +kernel
theorem dX2_push_6 : decode cX2_push 6 = .ok (.invokevirtual 27, 3) := by decide +kernel
theorem dX2_push_9 : decode cX2_push 9 = .ok (.return_, 1) := by decide +kernel
set_option maxRecDepth 20000 in
theorem ggX2_open_X8_at : GoodIn wsX2_open wsX8_at := goodIn_r _ [5] (by decide +kernel) (by decide +kernel)
set_option maxRecDepth 20000 in
theorem gX2_open_X8_at_n19 : GoodIn wsX2_open (wsX8_at) := ggX2_open_X8_at
set_option maxRecDepth 20000 in
theorem ggX2_open_X8_put : GoodIn wsX2_open wsX8_put := goodIn_r _ [7] (by decide +kernel) (by decide +kernel)
set_option maxRecDepth 20000 in
theorem gX2_open_X8_put_n23 : GoodIn wsX2_open (wsX8_put) := ggX2_open_X8_put
theorem dX2_open_0 : decode cX2_open 0 = .ok (.aload_n 0, 1) := by decide +kernel
theorem dX2_open_1 : decode cX2_open 1 = .ok (.getfield 15, 3) := by decide +kernel
theorem dX2_open_4 : decode cX2_open 4 = .ok (.bipush 64, 2) := by decide +kernel
theorem dX2_open_6 : decode cX2_open 6 = .ok (.if_icmp .ge 56, 3) := by decide +kernel
theorem dX2_open_9 : decode cX2_open 9 = .ok (.aload_n 0, 1) := by decide +kernel
theorem dX2_open_10 : decode cX2_open 10 = .ok (.getfield 15, 3) := by decide +kernel
theorem dX2_open_13 : decode cX2_open 13 = .ok (.istore_n 3, 1) := by decide +kernel
theorem dX2_open_14 : decode cX2_open 14 = .ok (.iload_n 3, 1) := by decide +kernel
theorem dX2_open_15 : decode cX2_open 15 = .ok (.iload_n 1, 1) := by decide +kernel
theorem dX2_open_16 : decode cX2_open 16 = .ok (.if_icmp .le 27, 3) := by decide +kernel
theorem dX2_open_19 : decode cX2_open 19 = .ok (.aload_n 0, 1) := by decide +kernel
theorem dX2_open_20 : decode cX2_open 20 = .ok (.getfield 9, 3) := by decide +kernel
theorem dX2_open_23 : decode cX2_open 23 = .ok (.iload_n 3, 1) := by decide +kernel
theorem dX2_open_24 : decode cX2_open 24 = .ok (.aload_n 0, 1) := by decide +kernel
theorem dX2_open_25 : decode cX2_open 25 = .ok (.getfield 9, 3) := by decide +kernel
theorem dX2_open_28 : decode cX2_open 28 = .ok (.iload_n 3, 1) := by decide +kernel
theorem dX2_open_29 : decode cX2_open 29 = .ok (.iconst 1, 1) := by decide +kernel
theorem dX2_open_30 : decode cX2_open 30 = .ok (.isub, 1) := by decide +kernel
theorem dX2_open_31 : decode cX2_open 31 = .ok (.invokestatic 19, 3) := by decide +kernel
theorem dX2_open_34 : decode cX2_open 34 = .ok (.invokestatic 23, 3) := by decide +kernel
theorem dX2_open_37 : decode cX2_open 37 = .ok (.iinc 3 (-1), 3) := by decide +kernel
theorem dX2_open_40 : decode cX2_open 40 = .ok (.goto (-26), 3) := by decide +kernel
theorem dX2_open_43 : decode cX2_open 43 = .ok (.aload_n 0, 1) := by decide +kernel
theorem dX2_open_44 : decode cX2_open 44 = .ok (.getfield 9, 3) := by decide +kernel
theorem dX2_open_47 : decode cX2_open 47 = .ok (.iload_n 1, 1) := by decide +kernel
theorem dX2_open_48 : decode cX2_open 48 = .ok (.iload_n 2, 1) := by decide +kernel
theorem dX2_open_49 : decode cX2_open 49 = .ok (.invokestatic 23, 3) := by decide +kernel
theorem dX2_open_52 : decode cX2_open 52 = .ok (.aload_n 0, 1) := by decide +kernel
theorem dX2_open_53 : decode cX2_open 53 = .ok (.dup, 1) := by decide +kernel
theorem dX2_open_54 : decode cX2_open 54 = .ok (.getfield 15, 3) := by decide +kernel
theorem dX2_open_57 : decode cX2_open 57 = .ok (.iconst 1, 1) := by decide +kernel
theorem dX2_open_58 : decode cX2_open 58 = .ok (.iadd, 1) := by decide +kernel
theorem dX2_open_59 : decode cX2_open 59 = .ok (.putfield 15, 3) := by decide +kernel
theorem dX2_open_62 : decode cX2_open 62 = .ok (.return_, 1) := by decide +kernel
set_option maxRecDepth 20000 in
theorem ggX2_take_X8_at : GoodIn wsX2_take wsX8_at := goodIn_r _ [5] (by decide +kernel) (by decide +kernel)
set_option maxRecDepth 20000 in
theorem gX2_take_X8_at_n19 : GoodIn wsX2_take (wsX8_at) := ggX2_take_X8_at
set_option maxRecDepth 20000 in
theorem ggX2_take_X8_put : GoodIn wsX2_take wsX8_put := goodIn_r _ [7] (by decide +kernel) (by decide +kernel)
set_option maxRecDepth 20000 in
theorem gX2_take_X8_put_n23 : GoodIn wsX2_take (wsX8_put) := ggX2_take_X8_put
theorem dX2_take_0 : decode cX2_take 0 = .ok (.aload_n 0, 1) := by decide +kernel
theorem dX2_take_1 : decode cX2_take 1 = .ok (.getfield 9, 3) := by decide +kernel
theorem dX2_take_4 : decode cX2_take 4 = .ok (.iload_n 1, 1) := by decide +kernel
theorem dX2_take_5 : decode cX2_take 5 = .ok (.invokestatic 19, 3) := by decide +kernel
theorem dX2_take_8 : decode cX2_take 8 = .ok (.istore_n 2, 1) := by decide +kernel
theorem dX2_take_9 : decode cX2_take 9 = .ok (.iload_n 1, 1) := by decide +kernel
theorem dX2_take_10 : decode cX2_take 10 = .ok (.iconst 1, 1) := by decide +kernel
theorem dX2_take_11 : decode cX2_take 11 = .ok (.iadd, 1) := by decide +kernel
theorem dX2_take_12 : decode cX2_take 12 = .ok (.istore_n 3, 1) := by decide +kernel
theorem dX2_take_13 : decode cX2_take 13 = .ok (.iload_n 3, 1) := by decide +kernel
theorem dX2_take_14 : decode cX2_take 14 = .ok (.aload_n 0, 1) := by decide +kernel
theorem dX2_take_15 : decode cX2_take 15 = .ok (.getfield 15, 3) := by decide +kernel
theorem dX2_take_18 : decode cX2_take 18 = .ok (.if_icmp .ge 27, 3) := by decide +kernel
theorem dX2_take_21 : decode cX2_take 21 = .ok (.aload_n 0, 1) := by decide +kernel
theorem dX2_take_22 : decode cX2_take 22 = .ok (.getfield 9, 3) := by decide +kernel
theorem dX2_take_25 : decode cX2_take 25 = .ok (.iload_n 3, 1) := by decide +kernel
theorem dX2_take_26 : decode cX2_take 26 = .ok (.iconst 1, 1) := by decide +kernel
theorem dX2_take_27 : decode cX2_take 27 = .ok (.isub, 1) := by decide +kernel
theorem dX2_take_28 : decode cX2_take 28 = .ok (.aload_n 0, 1) := by decide +kernel
theorem dX2_take_29 : decode cX2_take 29 = .ok (.getfield 9, 3) := by decide +kernel
theorem dX2_take_32 : decode cX2_take 32 = .ok (.iload_n 3, 1) := by decide +kernel
theorem dX2_take_33 : decode cX2_take 33 = .ok (.invokestatic 19, 3) := by decide +kernel
theorem dX2_take_36 : decode cX2_take 36 = .ok (.invokestatic 23, 3) := by decide +kernel
theorem dX2_take_39 : decode cX2_take 39 = .ok (.iinc 3 1, 3) := by decide +kernel
theorem dX2_take_42 : decode cX2_take 42 = .ok (.goto (-29), 3) := by decide +kernel
theorem dX2_take_45 : decode cX2_take 45 = .ok (.aload_n 0, 1) := by decide +kernel
theorem dX2_take_46 : decode cX2_take 46 = .ok (.dup, 1) := by decide +kernel
theorem dX2_take_47 : decode cX2_take 47 = .ok (.getfield 15, 3) := by decide +kernel
theorem dX2_take_50 : decode cX2_take 50 = .ok (.iconst 1, 1) := by decide +kernel
theorem dX2_take_51 : decode cX2_take 51 = .ok (.isub, 1) := by decide +kernel
theorem dX2_take_52 : decode cX2_take 52 = .ok (.putfield 15, 3) := by decide +kernel
theorem dX2_take_55 : decode cX2_take 55 = .ok (.iload_n 2, 1) := by decide +kernel
theorem dX2_take_56 : decode cX2_take 56 = .ok (.ireturn, 1) := by decide +kernel
set_option maxRecDepth 20000 in
theorem ggX2_turn_X8_at : GoodIn wsX2_turn wsX8_at := goodIn_r _ [4] (by decide +kernel) (by decide +kernel)
set_option maxRecDepth 20000 in
theorem gX2_turn_X8_at_n19 : GoodIn wsX2_turn (wsX8_at) := ggX2_turn_X8_at
set_option maxRecDepth 20000 in
theorem ggX2_turn_X8_put : GoodIn wsX2_turn wsX8_put := goodIn_r _ [6] (by decide +kernel) (by decide +kernel)
set_option maxRecDepth 20000 in
theorem gX2_turn_X8_put_n23 : GoodIn wsX2_turn (wsX8_put) := ggX2_turn_X8_put
theorem dX2_turn_0 : decode cX2_turn 0 = .ok (.iconst 0, 1) := by decide +kernel
theorem dX2_turn_1 : decode cX2_turn 1 = .ok (.istore_n 3, 1) := by decide +kernel
theorem dX2_turn_2 : decode cX2_turn 2 = .ok (.iload_n 3, 1) := by decide +kernel
theorem dX2_turn_3 : decode cX2_turn 3 = .ok (.iload_n 2, 1) := by decide +kernel
theorem dX2_turn_4 : decode cX2_turn 4 = .ok (.iload_n 1, 1) := by decide +kernel
theorem dX2_turn_5 : decode cX2_turn 5 = .ok (.isub, 1) := by decide +kernel
theorem dX2_turn_6 : decode cX2_turn 6 = .ok (.iconst 2, 1) := by decide +kernel
theorem dX2_turn_7 : decode cX2_turn 7 = .ok (.idiv, 1) := by decide +kernel
theorem dX2_turn_8 : decode cX2_turn 8 = .ok (.if_icmp .ge 57, 3) := by decide +kernel
theorem dX2_turn_11 : decode cX2_turn 11 = .ok (.aload_n 0, 1) := by decide +kernel
theorem dX2_turn_12 : decode cX2_turn 12 = .ok (.getfield 9, 3) := by decide +kernel
theorem dX2_turn_15 : decode cX2_turn 15 = .ok (.iload_n 1, 1) := by decide +kernel
theorem dX2_turn_16 : decode cX2_turn 16 = .ok (.iload_n 3, 1) := by decide +kernel
theorem dX2_turn_17 : decode cX2_turn 17 = .ok (.iadd, 1) := by decide +kernel
theorem dX2_turn_18 : decode cX2_turn 18 = .ok (.invokestatic 19, 3) := by decide +kernel
theorem dX2_turn_21 : decode cX2_turn 21 = .ok (.istore 4, 2) := by decide +kernel
theorem dX2_turn_23 : decode cX2_turn 23 = .ok (.aload_n 0, 1) := by decide +kernel
theorem dX2_turn_24 : decode cX2_turn 24 = .ok (.getfield 9, 3) := by decide +kernel
theorem dX2_turn_27 : decode cX2_turn 27 = .ok (.iload_n 1, 1) := by decide +kernel
theorem dX2_turn_28 : decode cX2_turn 28 = .ok (.iload_n 3, 1) := by decide +kernel
theorem dX2_turn_29 : decode cX2_turn 29 = .ok (.iadd, 1) := by decide +kernel
theorem dX2_turn_30 : decode cX2_turn 30 = .ok (.aload_n 0, 1) := by decide +kernel
theorem dX2_turn_31 : decode cX2_turn 31 = .ok (.getfield 9, 3) := by decide +kernel
theorem dX2_turn_34 : decode cX2_turn 34 = .ok (.iload_n 2, 1) := by decide +kernel
theorem dX2_turn_35 : decode cX2_turn 35 = .ok (.iconst 1, 1) := by decide +kernel
theorem dX2_turn_36 : decode cX2_turn 36 = .ok (.isub, 1) := by decide +kernel
theorem dX2_turn_37 : decode cX2_turn 37 = .ok (.iload_n 3, 1) := by decide +kernel
theorem dX2_turn_38 : decode cX2_turn 38 = .ok (.isub, 1) := by decide +kernel
theorem dX2_turn_39 : decode cX2_turn 39 = .ok (.invokestatic 19, 3) := by decide +kernel
theorem dX2_turn_42 : decode cX2_turn 42 = .ok (.invokestatic 23, 3) := by decide +kernel
theorem dX2_turn_45 : decode cX2_turn 45 = .ok (.aload_n 0, 1) := by decide +kernel
theorem dX2_turn_46 : decode cX2_turn 46 = .ok (.getfield 9, 3) := by decide +kernel
theorem dX2_turn_49 : decode cX2_turn 49 = .ok (.iload_n 2, 1) := by decide +kernel
theorem dX2_turn_50 : decode cX2_turn 50 = .ok (.iconst 1, 1) := by decide +kernel
theorem dX2_turn_51 : decode cX2_turn 51 = .ok (.isub, 1) := by decide +kernel
theorem dX2_turn_52 : decode cX2_turn 52 = .ok (.iload_n 3, 1) := by decide +kernel
theorem dX2_turn_53 : decode cX2_turn 53 = .ok (.isub, 1) := by decide +kernel
theorem dX2_turn_54 : decode cX2_turn 54 = .ok (.iload 4, 2) := by decide +kernel
theorem dX2_turn_56 : decode cX2_turn 56 = .ok (.invokestatic 23, 3) := by decide +kernel
theorem dX2_turn_59 : decode cX2_turn 59 = .ok (.iinc 3 1, 3) := by decide +kernel
theorem dX2_turn_62 : decode cX2_turn 62 = .ok (.goto (-60), 3) := by decide +kernel
theorem dX2_turn_65 : decode cX2_turn 65 = .ok (.return_, 1) := by decide +kernel
set_option maxRecDepth 20000 in
theorem ggX2_countSame_X8_at : GoodIn wsX2_countSame wsX8_at := goodIn_r _ [9] (by decide +kernel) (by decide +kernel)
set_option maxRecDepth 20000 in
theorem gX2_countSame_X8_at_n19 : GoodIn wsX2_countSame (wsX8_at) := ggX2_countSame_X8_at
theorem dX2_countSame_0 : decode cX2_countSame 0 = .ok (.aload_n 0, 1) := by decide +kernel
theorem dX2_countSame_1 : decode cX2_countSame 1 = .ok (.getfield 15, 3) := by decide +kernel
theorem dX2_countSame_4 : decode cX2_countSame 4 = .ok (.iload_n 1, 1) := by decide +kernel
theorem dX2_countSame_5 : decode cX2_countSame 5 = .ok (.iload_n 2, 1) := by decide +kernel
theorem dX2_countSame_6 : decode cX2_countSame 6 = .ok (.invokestatic 31, 3) := by decide +kernel
theorem dX2_countSame_9 : decode cX2_countSame 9 = .ok (.isub, 1) := by decide +kernel
theorem dX2_countSame_10 : decode cX2_countSame 10 = .ok (.istore_n 3, 1) := by decide +kernel
theorem dX2_countSame_11 : decode cX2_countSame 11 = .ok (.iconst 0, 1) := by decide +kernel
theorem dX2_countSame_12 : decode cX2_countSame 12 = .ok (.istore 4, 2) := by decide +kernel
theorem dX2_countSame_14 : decode cX2_countSame 14 = .ok (.iload 4, 2) := by decide +kernel
theorem dX2_countSame_16 : decode cX2_countSame 16 = .ok (.iload_n 3, 1) := by decide +kernel
theorem dX2_countSame_17 : decode cX2_countSame 17 = .ok (.if_icmp .ge 34, 3) := by decide +kernel
theorem dX2_countSame_20 : decode cX2_countSame 20 = .ok (.aload_n 0, 1) := by decide +kernel
theorem dX2_countSame_21 : decode cX2_countSame 21 = .ok (.getfield 9, 3) := by decide +kernel
theorem dX2_countSame_24 : decode cX2_countSame 24 = .ok (.iload_n 1, 1) := by decide +kernel
theorem dX2_countSame_25 : decode cX2_countSame 25 = .ok (.iload 4, 2) := by decide +kernel
theorem dX2_countSame_27 : decode cX2_countSame 27 = .ok (.iadd, 1) := by decide +kernel
theorem dX2_countSame_28 : decode cX2_countSame 28 = .ok (.invokestatic 19, 3) := by decide +kernel
theorem dX2_countSame_31 : decode cX2_countSame 31 = .ok (.aload_n 0, 1) := by decide +kernel
theorem dX2_countSame_32 : decode cX2_countSame 32 = .ok (.getfield 9, 3) := by decide +kernel
theorem dX2_countSame_35 : decode cX2_countSame 35 = .ok (.iload_n 2, 1) := by decide +kernel
theorem dX2_countSame_36 : decode cX2_countSame 36 = .ok (.iload 4, 2) := by decide +kernel
theorem dX2_countSame_38 : decode cX2_countSame 38 = .ok (.iadd, 1) := by decide +kernel
theorem dX2_countSame_39 : decode cX2_countSame 39 = .ok (.invokestatic 19, 3) := by decide +kernel
theorem dX2_countSame_42 : decode cX2_countSame 42 = .ok (.if_icmp .ne 9, 3) := by decide +kernel
theorem dX2_countSame_45 : decode cX2_countSame 45 = .ok (.iinc 4 1, 3) := by decide +kernel
theorem dX2_countSame_48 : decode cX2_countSame 48 = .ok (.goto (-34), 3) := by decide +kernel
theorem dX2_countSame_51 : decode cX2_countSame 51 = .ok (.iload 4, 2) := by decide +kernel
theorem dX2_countSame_53 : decode cX2_countSame 53 = .ok (.ireturn, 1) := by decide +kernel
set_option maxRecDepth 20000 in
theorem ggX2_keepsPeriod_X8_at : GoodIn wsX2_keepsPeriod wsX8_at := goodIn_r _ [4] (by decide +kernel) (by decide +kernel)
set_option maxRecDepth 20000 in
theorem gX2_keepsPeriod_X8_at_n19 : GoodIn wsX2_keepsPeriod (wsX8_at) := ggX2_keepsPeriod_X8_at
theorem dX2_keepsPeriod_0 : decode cX2_keepsPeriod 0 = .ok (.iload_n 1, 1) := by decide +kernel
theorem dX2_keepsPeriod_1 : decode cX2_keepsPeriod 1 = .ok (.iload_n 3, 1) := by decide +kernel
theorem dX2_keepsPeriod_2 : decode cX2_keepsPeriod 2 = .ok (.iadd, 1) := by decide +kernel
theorem dX2_keepsPeriod_3 : decode cX2_keepsPeriod 3 = .ok (.istore 4, 2) := by decide +kernel
theorem dX2_keepsPeriod_5 : decode cX2_keepsPeriod 5 = .ok (.iload 4, 2) := by decide +kernel
theorem dX2_keepsPeriod_7 : decode cX2_keepsPeriod 7 = .ok (.iload_n 2, 1) := by decide +kernel
theorem dX2_keepsPeriod_8 : decode cX2_keepsPeriod 8 = .ok (.if_icmp .ge 34, 3) := by decide +kernel
theorem dX2_keepsPeriod_11 : decode cX2_keepsPeriod 11 = .ok (.aload_n 0, 1) := by decide +kernel
theorem dX2_keepsPeriod_12 : decode cX2_keepsPeriod 12 = .ok (.getfield 9, 3) := by decide +kernel
theorem dX2_keepsPeriod_15 : decode cX2_keepsPeriod 15 = .ok (.iload 4, 2) := by decide +kernel
theorem dX2_keepsPeriod_17 : decode cX2_keepsPeriod 17 = .ok (.invokestatic 19, 3) := by decide +kernel
theorem dX2_keepsPeriod_20 : decode cX2_keepsPeriod 20 = .ok (.aload_n 0, 1) := by decide +kernel
theorem dX2_keepsPeriod_21 : decode cX2_keepsPeriod 21 = .ok (.getfield 9, 3) := by decide +kernel
theorem dX2_keepsPeriod_24 : decode cX2_keepsPeriod 24 = .ok (.iload 4, 2) := by decide +kernel
theorem dX2_keepsPeriod_26 : decode cX2_keepsPeriod 26 = .ok (.iload_n 3, 1) := by decide +kernel
theorem dX2_keepsPeriod_27 : decode cX2_keepsPeriod 27 = .ok (.isub, 1) := by decide +kernel
theorem dX2_keepsPeriod_28 : decode cX2_keepsPeriod 28 = .ok (.invokestatic 19, 3) := by decide +kernel
theorem dX2_keepsPeriod_31 : decode cX2_keepsPeriod 31 = .ok (.if_icmp .eq 5, 3) := by decide +kernel
theorem dX2_keepsPeriod_34 : decode cX2_keepsPeriod 34 = .ok (.iconst 0, 1) := by decide +kernel
theorem dX2_keepsPeriod_35 : decode cX2_keepsPeriod 35 = .ok (.ireturn, 1) := by decide +kernel
theorem dX2_keepsPeriod_36 : decode cX2_keepsPeriod 36 = .ok (.iinc 4 1, 3) := by decide +kernel
theorem dX2_keepsPeriod_39 : decode cX2_keepsPeriod 39 = .ok (.goto (-34), 3) := by decide +kernel
theorem dX2_keepsPeriod_42 : decode cX2_keepsPeriod 42 = .ok (.iconst 1, 1) := by decide +kernel
theorem dX2_keepsPeriod_43 : decode cX2_keepsPeriod 43 = .ok (.ireturn, 1) := by decide +kernel
set_option maxRecDepth 20000 in
theorem ggX2_firstPeriod_X2_keepsPeriod : GoodIn wsX2_firstPeriod wsX2_keepsPeriod := goodIn_r _ [5, 6, 7, 8, 9, 10, 11] (by decide +kernel) (by decide +kernel)
set_option maxRecDepth 20000 in
theorem gX2_firstPeriod_X2_keepsPeriod : GoodIn wsX2_firstPeriod (wsV RX2 37 RX2 yX2_keepsPeriod wsX2_keepsPeriod) := goodIn_app (goodIn_of _ (by decide +kernel)) ggX2_firstPeriod_X2_keepsPeriod
theorem dX2_firstPeriod_0 : decode cX2_firstPeriod 0 = .ok (.iconst 1, 1) := by decide +kernel
theorem dX2_firstPeriod_1 : decode cX2_firstPeriod 1 = .ok (.istore_n 3, 1) := by decide +kernel
theorem dX2_firstPeriod_2 : decode cX2_firstPeriod 2 = .ok (.iload_n 3, 1) := by decide +kernel
theorem dX2_firstPeriod_3 : decode cX2_firstPeriod 3 = .ok (.iload_n 2, 1) := by decide +kernel
theorem dX2_firstPeriod_4 : decode cX2_firstPeriod 4 = .ok (.iload_n 1, 1) := by decide +kernel
theorem dX2_firstPeriod_5 : decode cX2_firstPeriod 5 = .ok (.isub, 1) := by decide +kernel
theorem dX2_firstPeriod_6 : decode cX2_firstPeriod 6 = .ok (.if_icmp .ge 19, 3) := by decide +kernel
theorem dX2_firstPeriod_9 : decode cX2_firstPeriod 9 = .ok (.aload_n 0, 1) := by decide +kernel
theorem dX2_firstPeriod_10 : decode cX2_firstPeriod 10 = .ok (.iload_n 1, 1) := by decide +kernel
theorem dX2_firstPeriod_11 : decode cX2_firstPeriod 11 = .ok (.iload_n 2, 1) := by decide +kernel
theorem dX2_firstPeriod_12 : decode cX2_firstPeriod 12 = .ok (.iload_n 3, 1) := by decide +kernel
theorem dX2_firstPeriod_13 : decode cX2_firstPeriod 13 = .ok (.invokevirtual 37, 3) := by decide +kernel
theorem dX2_firstPeriod_16 : decode cX2_firstPeriod 16 = .ok (.ifCond .ne 9, 3) := by decide +kernel
theorem dX2_firstPeriod_19 : decode cX2_firstPeriod 19 = .ok (.iinc 3 1, 3) := by decide +kernel
theorem dX2_firstPeriod_22 : decode cX2_firstPeriod 22 = .ok (.goto (-20), 3) := by decide +kernel
theorem dX2_firstPeriod_25 : decode cX2_firstPeriod 25 = .ok (.iload_n 3, 1) := by decide +kernel
theorem dX2_firstPeriod_26 : decode cX2_firstPeriod 26 = .ok (.ireturn, 1) := by decide +kernel
theorem dX3_init_0 : decode cX3_init 0 = .ok (.aload_n 0, 1) := by decide +kernel
theorem dX3_init_1 : decode cX3_init 1 = .ok (.invokespecial 1, 3) := by decide +kernel
theorem dX3_init_4 : decode cX3_init 4 = .ok (.aload_n 0, 1) := by decide +kernel
theorem dX3_init_5 : decode cX3_init 5 = .ok (.iconst 0, 1) := by decide +kernel
theorem dX3_init_6 : decode cX3_init 6 = .ok (.putfield 7, 3) := by decide +kernel
theorem dX3_init_9 : decode cX3_init 9 = .ok (.aload_n 0, 1) := by decide +kernel
theorem dX3_init_10 : decode cX3_init 10 = .ok (.iconst 1, 1) := by decide +kernel
theorem dX3_init_11 : decode cX3_init 11 = .ok (.putfield 13, 3) := by decide +kernel
theorem dX3_init_14 : decode cX3_init 14 = .ok (.aload_n 0, 1) := by decide +kernel
theorem dX3_init_15 : decode cX3_init 15 = .ok (.iconst 0, 1) := by decide +kernel
theorem dX3_init_16 : decode cX3_init 16 = .ok (.putfield 16, 3) := by decide +kernel
theorem dX3_init_19 : decode cX3_init 19 = .ok (.aload_n 0, 1) := by decide +kernel
theorem dX3_init_20 : decode cX3_init 20 = .ok (.iconst 1, 1) := by decide +kernel
theorem dX3_init_21 : decode cX3_init 21 = .ok (.putfield 19, 3) := by decide +kernel
theorem dX3_init_24 : decode cX3_init 24 = .ok (.return_, 1) := by decide +kernel
theorem dX3_pack_0 : decode cX3_pack 0 = .ok (.iload_n 0, 1) := by decide +kernel
theorem dX3_pack_1 : decode cX3_pack 1 = .ok (.iconst 3, 1) := by decide +kernel
theorem dX3_pack_2 : decode cX3_pack 2 = .ok (.ishl, 1) := by decide +kernel
theorem dX3_pack_3 : decode cX3_pack 3 = .ok (.iload_n 1, 1) := by decide +kernel
theorem dX3_pack_4 : decode cX3_pack 4 = .ok (.bipush 7, 2) := by decide +kernel
theorem dX3_pack_6 : decode cX3_pack 6 = .ok (.iand, 1) := by decide +kernel
theorem dX3_pack_7 : decode cX3_pack 7 = .ok (.ior, 1) := by decide +kernel
theorem dX3_pack_8 : decode cX3_pack 8 = .ok (.ireturn, 1) := by decide +kernel
theorem dX3_begin_0 : decode cX3_begin 0 = .ok (.aload_n 0, 1) := by decide +kernel
theorem dX3_begin_1 : decode cX3_begin 1 = .ok (.iload_n 1, 1) := by decide +kernel
theorem dX3_begin_2 : decode cX3_begin 2 = .ok (.iconst 1, 1) := by decide +kernel
theorem dX3_begin_3 : decode cX3_begin 3 = .ok (.isub, 1) := by decide +kernel
theorem dX3_begin_4 : decode cX3_begin 4 = .ok (.putfield 7, 3) := by decide +kernel
theorem dX3_begin_7 : decode cX3_begin 7 = .ok (.aload_n 0, 1) := by decide +kernel
theorem dX3_begin_8 : decode cX3_begin 8 = .ok (.iload_n 2, 1) := by decide +kernel
theorem dX3_begin_9 : decode cX3_begin 9 = .ok (.putfield 13, 3) := by decide +kernel
theorem dX3_begin_12 : decode cX3_begin 12 = .ok (.aload_n 0, 1) := by decide +kernel
theorem dX3_begin_13 : decode cX3_begin 13 = .ok (.iconst 0, 1) := by decide +kernel
theorem dX3_begin_14 : decode cX3_begin 14 = .ok (.putfield 16, 3) := by decide +kernel
theorem dX3_begin_17 : decode cX3_begin 17 = .ok (.aload_n 0, 1) := by decide +kernel
theorem dX3_begin_18 : decode cX3_begin 18 = .ok (.iconst 1, 1) := by decide +kernel
theorem dX3_begin_19 : decode cX3_begin 19 = .ok (.putfield 19, 3) := by decide +kernel
theorem dX3_begin_22 : decode cX3_begin 22 = .ok (.return_, 1) := by decide +kernel
theorem dX3_root_0 : decode cX3_root 0 = .ok (.aload_n 0, 1) := by decide +kernel
theorem dX3_root_1 : decode cX3_root 1 = .ok (.getfield 19, 3) := by decide +kernel
theorem dX3_root_4 : decode cX3_root 4 = .ok (.ireturn, 1) := by decide +kernel
theorem dX3_letter_0 : decode cX3_letter 0 = .ok (.aload_n 0, 1) := by decide +kernel
theorem dX3_letter_1 : decode cX3_letter 1 = .ok (.getfield 16, 3) := by decide +kernel
theorem dX3_letter_4 : decode cX3_letter 4 = .ok (.iconst 3, 1) := by decide +kernel
theorem dX3_letter_5 : decode cX3_letter 5 = .ok (.aload_n 0, 1) := by decide +kernel
theorem dX3_letter_6 : decode cX3_letter 6 = .ok (.getfield 13, 3) := by decide +kernel
theorem dX3_letter_9 : decode cX3_letter 9 = .ok (.iconst 1, 1) := by decide +kernel
theorem dX3_letter_10 : decode cX3_letter 10 = .ok (.isub, 1) := by decide +kernel
theorem dX3_letter_11 : decode cX3_letter 11 = .ok (.iload_n 1, 1) := by decide +kernel
theorem dX3_letter_12 : decode cX3_letter 12 = .ok (.isub, 1) := by decide +kernel
theorem dX3_letter_13 : decode cX3_letter 13 = .ok (.imul, 1) := by decide +kernel
theorem dX3_letter_14 : decode cX3_letter 14 = .ok (.ishr, 1) := by decide +kernel
theorem dX3_letter_15 : decode cX3_letter 15 = .ok (.bipush 7, 2) := by decide +kernel
theorem dX3_letter_17 : decode cX3_letter 17 = .ok (.iand, 1) := by decide +kernel
theorem dX3_letter_18 : decode cX3_letter 18 = .ok (.ireturn, 1) := by decide +kernel
set_option maxRecDepth 20000 in
theorem ggX3_toNextNecklace_X3_toNextWord : GoodIn wsX3_toNextNecklace wsX3_toNextWord := goodIn_r _ [8, 9, 3, 10, 2, 11, 12, 7, 13, 14, 15, 16, 17] (by decide +kernel) (by decide +kernel)
set_option maxRecDepth 20000 in
theorem gX3_toNextNecklace_X3_toNextWord : GoodIn wsX3_toNextNecklace (wsV RX3 23 RX3 yX3_toNextWord wsX3_toNextWord) := goodIn_app (goodIn_of _ (by decide +kernel)) ggX3_toNextNecklace_X3_toNextWord
theorem dX3_toNextNecklace_0 : decode cX3_toNextNecklace 0 = .ok (.iconst 0, 1) := by decide +kernel
theorem dX3_toNextNecklace_1 : decode cX3_toNextNecklace 1 = .ok (.istore_n 1, 1) := by decide +kernel
theorem dX3_toNextNecklace_2 : decode cX3_toNextNecklace 2 = .ok (.iload_n 1, 1) := by decide +kernel
theorem dX3_toNextNecklace_3 : decode cX3_toNextNecklace 3 = .ok (.ldc 22, 2) := by decide +kernel
theorem dX3_toNextNecklace_5 : decode cX3_toNextNecklace 5 = .ok (.if_icmp .ge 37, 3) := by decide +kernel
theorem dX3_toNextNecklace_8 : decode cX3_toNextNecklace 8 = .ok (.aload_n 0, 1) := by decide +kernel
theorem dX3_toNextNecklace_9 : decode cX3_toNextNecklace 9 = .ok (.invokevirtual 23, 3) := by decide +kernel
theorem dX3_toNextNecklace_12 : decode cX3_toNextNecklace 12 = .ok (.ifCond .eq 30, 3) := by decide +kernel
theorem dX3_toNextNecklace_15 : decode cX3_toNextNecklace 15 = .ok (.aload_n 0, 1) := by decide +kernel
theorem dX3_toNextNecklace_16 : decode cX3_toNextNecklace 16 = .ok (.getfield 19, 3) := by decide +kernel
theorem dX3_toNextNecklace_19 : decode cX3_toNextNecklace 19 = .ok (.ifCond .le 17, 3) := by decide +kernel
theorem dX3_toNextNecklace_22 : decode cX3_toNextNecklace 22 = .ok (.aload_n 0, 1) := by decide +kernel
theorem dX3_toNextNecklace_23 : decode cX3_toNextNecklace 23 = .ok (.getfield 13, 3) := by decide +kernel
theorem dX3_toNextNecklace_26 : decode cX3_toNextNecklace 26 = .ok (.aload_n 0, 1) := by decide +kernel
theorem dX3_toNextNecklace_27 : decode cX3_toNextNecklace 27 = .ok (.getfield 19, 3) := by decide +kernel
theorem dX3_toNextNecklace_30 : decode cX3_toNextNecklace 30 = .ok (.irem, 1) := by decide +kernel
theorem dX3_toNextNecklace_31 : decode cX3_toNextNecklace 31 = .ok (.ifCond .ne 5, 3) := by decide +kernel
theorem dX3_toNextNecklace_34 : decode cX3_toNextNecklace 34 = .ok (.iconst 1, 1) := by decide +kernel
theorem dX3_toNextNecklace_35 : decode cX3_toNextNecklace 35 = .ok (.ireturn, 1) := by decide +kernel
theorem dX3_toNextNecklace_36 : decode cX3_toNextNecklace 36 = .ok (.iinc 1 1, 3) := by decide +kernel
theorem dX3_toNextNecklace_39 : decode cX3_toNextNecklace 39 = .ok (.goto (-37), 3) := by decide +kernel
theorem dX3_toNextNecklace_42 : decode cX3_toNextNecklace 42 = .ok (.iconst 0, 1) := by decide +kernel
theorem dX3_toNextNecklace_43 : decode cX3_toNextNecklace 43 = .ok (.ireturn, 1) := by decide +kernel
set_option maxRecDepth 20000 in
theorem ggX3_toNextWord_X3_pack : GoodIn wsX3_toNextWord wsX3_pack := goodIn_r _ [8] (by decide +kernel) (by decide +kernel)
set_option maxRecDepth 20000 in
theorem gX3_toNextWord_X3_pack : GoodIn wsX3_toNextWord (va_wsS RX3 30 yX3_pack wsX3_pack) := goodIn_app (goodIn_of _ (by decide +kernel)) ggX3_toNextWord_X3_pack
theorem dX3_toNextWord_0 : decode cX3_toNextWord 0 = .ok (.aload_n 0, 1) := by decide +kernel
theorem dX3_toNextWord_1 : decode cX3_toNextWord 1 = .ok (.getfield 16, 3) := by decide +kernel
theorem dX3_toNextWord_4 : decode cX3_toNextWord 4 = .ok (.istore_n 1, 1) := by decide +kernel
theorem dX3_toNextWord_5 : decode cX3_toNextWord 5 = .ok (.aload_n 0, 1) := by decide +kernel
theorem dX3_toNextWord_6 : decode cX3_toNextWord 6 = .ok (.getfield 13, 3) := by decide +kernel
theorem dX3_toNextWord_9 : decode cX3_toNextWord 9 = .ok (.istore_n 2, 1) := by decide +kernel
theorem dX3_toNextWord_10 : decode cX3_toNextWord 10 = .ok (.iload_n 2, 1) := by decide +kernel
theorem dX3_toNextWord_11 : decode cX3_toNextWord 11 = .ok (.ifCond .le 24, 3) := by decide +kernel
theorem dX3_toNextWord_14 : decode cX3_toNextWord 14 = .ok (.iload_n 1, 1) := by decide +kernel
theorem dX3_toNextWord_15 : decode cX3_toNextWord 15 = .ok (.bipush 7, 2) := by decide +kernel
theorem dX3_toNextWord_17 : decode cX3_toNextWord 17 = .ok (.iand, 1) := by decide +kernel
theorem dX3_toNextWord_18 : decode cX3_toNextWord 18 = .ok (.aload_n 0, 1) := by decide +kernel
theorem dX3_toNextWord_19 : decode cX3_toNextWord 19 = .ok (.getfield 7, 3) := by decide +kernel
theorem dX3_toNextWord_22 : decode cX3_toNextWord 22 = .ok (.if_icmp .ne 13, 3) := by decide +kernel
theorem dX3_toNextWord_25 : decode cX3_toNextWord 25 = .ok (.iload_n 1, 1) := by decide +kernel
theorem dX3_toNextWord_26 : decode cX3_toNextWord 26 = .ok (.iconst 3, 1) := by decide +kernel
theorem dX3_toNextWord_27 : decode cX3_toNextWord 27 = .ok (.ishr, 1) := by decide +kernel
theorem dX3_toNextWord_28 : decode cX3_toNextWord 28 = .ok (.istore_n 1, 1) := by decide +kernel
theorem dX3_toNextWord_29 : decode cX3_toNextWord 29 = .ok (.iinc 2 (-1), 3) := by decide +kernel
theorem dX3_toNextWord_32 : decode cX3_toNextWord 32 = .ok (.goto (-22), 3) := by decide +kernel
theorem dX3_toNextWord_35 : decode cX3_toNextWord 35 = .ok (.iload_n 2, 1) := by decide +kernel
theorem dX3_toNextWord_36 : decode cX3_toNextWord 36 = .ok (.ifCond .ne 5, 3) := by decide +kernel
theorem dX3_toNextWord_39 : decode cX3_toNextWord 39 = .ok (.iconst 0, 1) := by decide +kernel
theorem dX3_toNextWord_40 : decode cX3_toNextWord 40 = .ok (.ireturn, 1) := by decide +kernel
theorem dX3_toNextWord_41 : decode cX3_toNextWord 41 = .ok (.aload_n 0, 1) := by decide +kernel
theorem dX3_toNextWord_42 : decode cX3_toNextWord 42 = .ok (.iload_n 2, 1) := by decide +kernel
theorem dX3_toNextWord_43 : decode cX3_toNextWord 43 = .ok (.putfield 19, 3) := by decide +kernel
theorem dX3_toNextWord_46 : decode cX3_toNextWord 46 = .ok (.aload_n 0, 1) := by decide +kernel
theorem dX3_toNextWord_47 : decode cX3_toNextWord 47 = .ok (.iload_n 1, 1) := by decide +kernel
theorem dX3_toNextWord_48 : decode cX3_toNextWord 48 = .ok (.iconst 1, 1) := by decide +kernel
theorem dX3_toNextWord_49 : decode cX3_toNextWord 49 = .ok (.iadd, 1) := by decide +kernel
theorem dX3_toNextWord_50 : decode cX3_toNextWord 50 = .ok (.putfield 16, 3) := by decide +kernel
theorem dX3_toNextWord_53 : decode cX3_toNextWord 53 = .ok (.iload_n 2, 1) := by decide +kernel
theorem dX3_toNextWord_54 : decode cX3_toNextWord 54 = .ok (.istore_n 3, 1) := by decide +kernel
theorem dX3_toNextWord_55 : decode cX3_toNextWord 55 = .ok (.iload_n 3, 1) := by decide +kernel
theorem dX3_toNextWord_56 : decode cX3_toNextWord 56 = .ok (.aload_n 0, 1) := by decide +kernel
theorem dX3_toNextWord_57 : decode cX3_toNextWord 57 = .ok (.getfield 13, 3) := by decide +kernel
theorem dX3_toNextWord_60 : decode cX3_toNextWord 60 = .ok (.if_icmp .ge 33, 3) := by decide +kernel
theorem dX3_toNextWord_63 : decode cX3_toNextWord 63 = .ok (.aload_n 0, 1) := by decide +kernel
theorem dX3_toNextWord_64 : decode cX3_toNextWord 64 = .ok (.aload_n 0, 1) := by decide +kernel
theorem dX3_toNextWord_65 : decode cX3_toNextWord 65 = .ok (.getfield 16, 3) := by decide +kernel
theorem dX3_toNextWord_68 : decode cX3_toNextWord 68 = .ok (.aload_n 0, 1) := by decide +kernel
theorem dX3_toNextWord_69 : decode cX3_toNextWord 69 = .ok (.getfield 16, 3) := by decide +kernel
theorem dX3_toNextWord_72 : decode cX3_toNextWord 72 = .ok (.iconst 3, 1) := by decide +kernel
theorem dX3_toNextWord_73 : decode cX3_toNextWord 73 = .ok (.aload_n 0, 1) := by decide +kernel
theorem dX3_toNextWord_74 : decode cX3_toNextWord 74 = .ok (.getfield 19, 3) := by decide +kernel
theorem dX3_toNextWord_77 : decode cX3_toNextWord 77 = .ok (.iconst 1, 1) := by decide +kernel
theorem dX3_toNextWord_78 : decode cX3_toNextWord 78 = .ok (.isub, 1) := by decide +kernel
theorem dX3_toNextWord_79 : decode cX3_toNextWord 79 = .ok (.imul, 1) := by decide +kernel
theorem dX3_toNextWord_80 : decode cX3_toNextWord 80 = .ok (.ishr, 1) := by decide +kernel
theorem dX3_toNextWord_81 : decode cX3_toNextWord 81 = .ok (.invokestatic 30, 3) := by decide +kernel
theorem dX3_toNextWord_84 : decode cX3_toNextWord 84 = .ok (.putfield 16, 3) := by decide +kernel
theorem dX3_toNextWord_87 : decode cX3_toNextWord 87 = .ok (.iinc 3 1, 3) := by decide +kernel
theorem dX3_toNextWord_90 : decode cX3_toNextWord 90 = .ok (.goto (-35), 3) := by decide +kernel
theorem dX3_toNextWord_93 : decode cX3_toNextWord 93 = .ok (.iconst 1, 1) := by decide +kernel
theorem dX3_toNextWord_94 : decode cX3_toNextWord 94 = .ok (.ireturn, 1) := by decide +kernel
theorem dX4_power_0 : decode cX4_power 0 = .ok (.lconst 1, 1) := by decide +kernel
theorem dX4_power_1 : decode cX4_power 1 = .ok (.lstore_n 2, 1) := by decide +kernel
theorem dX4_power_2 : decode cX4_power 2 = .ok (.iconst 0, 1) := by decide +kernel
theorem dX4_power_3 : decode cX4_power 3 = .ok (.istore 4, 2) := by decide +kernel
theorem dX4_power_5 : decode cX4_power 5 = .ok (.iload 4, 2) := by decide +kernel
theorem dX4_power_7 : decode cX4_power 7 = .ok (.iload_n 1, 1) := by decide +kernel
theorem dX4_power_8 : decode cX4_power 8 = .ok (.if_icmp .ge 14, 3) := by decide +kernel
theorem dX4_power_11 : decode cX4_power 11 = .ok (.lload_n 2, 1) := by decide +kernel
theorem dX4_power_12 : decode cX4_power 12 = .ok (.iload_n 0, 1) := by decide +kernel
theorem dX4_power_13 : decode cX4_power 13 = .ok (.i2l, 1) := by decide +kernel
theorem dX4_power_14 : decode cX4_power 14 = .ok (.lmul, 1) := by decide +kernel
theorem dX4_power_15 : decode cX4_power 15 = .ok (.lstore_n 2, 1) := by decide +kernel
theorem dX4_power_16 : decode cX4_power 16 = .ok (.iinc 4 1, 3) := by decide +kernel
theorem dX4_power_19 : decode cX4_power 19 = .ok (.goto (-14), 3) := by decide +kernel
theorem dX4_power_22 : decode cX4_power 22 = .ok (.lload_n 2, 1) := by decide +kernel
theorem dX4_power_23 : decode cX4_power 23 = .ok (.lreturn, 1) := by decide +kernel
set_option maxRecDepth 20000 in
theorem ggX4_necklaceCount_X4_lyndonCount : GoodIn wsX4_necklaceCount wsX4_lyndonCount := goodIn_r _ [4, 5, 6, 3, 7, 8, 9, 10] (by decide +kernel) (by decide +kernel)
set_option maxRecDepth 20000 in
theorem gX4_necklaceCount_X4_lyndonCount : GoodIn wsX4_necklaceCount (va_wsS RX4 7 yX4_lyndonCount wsX4_lyndonCount) := goodIn_app (goodIn_of _ (by decide +kernel)) ggX4_necklaceCount_X4_lyndonCount
theorem dX4_necklaceCount_0 : decode cX4_necklaceCount 0 = .ok (.lconst 0, 1) := by decide +kernel
theorem dX4_necklaceCount_1 : decode cX4_necklaceCount 1 = .ok (.lstore_n 2, 1) := by decide +kernel
theorem dX4_necklaceCount_2 : decode cX4_necklaceCount 2 = .ok (.iconst 1, 1) := by decide +kernel
theorem dX4_necklaceCount_3 : decode cX4_necklaceCount 3 = .ok (.istore 4, 2) := by decide +kernel
theorem dX4_necklaceCount_5 : decode cX4_necklaceCount 5 = .ok (.iload 4, 2) := by decide +kernel
theorem dX4_necklaceCount_7 : decode cX4_necklaceCount 7 = .ok (.iload_n 1, 1) := by decide +kernel
theorem dX4_necklaceCount_8 : decode cX4_necklaceCount 8 = .ok (.if_icmp .gt 25, 3) := by decide +kernel
theorem dX4_necklaceCount_11 : decode cX4_necklaceCount 11 = .ok (.iload_n 1, 1) := by decide +kernel
theorem dX4_necklaceCount_12 : decode cX4_necklaceCount 12 = .ok (.iload 4, 2) := by decide +kernel
theorem dX4_necklaceCount_14 : decode cX4_necklaceCount 14 = .ok (.irem, 1) := by decide +kernel
theorem dX4_necklaceCount_15 : decode cX4_necklaceCount 15 = .ok (.ifCond .ne 12, 3) := by decide +kernel
theorem dX4_necklaceCount_18 : decode cX4_necklaceCount 18 = .ok (.lload_n 2, 1) := by decide +kernel
theorem dX4_necklaceCount_19 : decode cX4_necklaceCount 19 = .ok (.iload_n 0, 1) := by decide +kernel
theorem dX4_necklaceCount_20 : decode cX4_necklaceCount 20 = .ok (.iload 4, 2) := by decide +kernel
theorem dX4_necklaceCount_22 : decode cX4_necklaceCount 22 = .ok (.invokestatic 7, 3) := by decide +kernel
theorem dX4_necklaceCount_25 : decode cX4_necklaceCount 25 = .ok (.ladd, 1) := by decide +kernel
theorem dX4_necklaceCount_26 : decode cX4_necklaceCount 26 = .ok (.lstore_n 2, 1) := by decide +kernel
theorem dX4_necklaceCount_27 : decode cX4_necklaceCount 27 = .ok (.iinc 4 1, 3) := by decide +kernel
theorem dX4_necklaceCount_30 : decode cX4_necklaceCount 30 = .ok (.goto (-25), 3) := by decide +kernel
theorem dX4_necklaceCount_33 : decode cX4_necklaceCount 33 = .ok (.lload_n 2, 1) := by decide +kernel
theorem dX4_necklaceCount_34 : decode cX4_necklaceCount 34 = .ok (.lreturn, 1) := by decide +kernel
set_option maxRecDepth 20000 in
theorem ggX4_lyndonCount_X4_moebius : GoodIn wsX4_lyndonCount wsX4_moebius := goodIn_r _ [4] (by decide +kernel) (by decide +kernel)
set_option maxRecDepth 20000 in
theorem gX4_lyndonCount_X4_moebius : GoodIn wsX4_lyndonCount (va_wsS RX4 13 yX4_moebius wsX4_moebius) := goodIn_app (goodIn_of _ (by decide +kernel)) ggX4_lyndonCount_X4_moebius
set_option maxRecDepth 20000 in
theorem ggX4_lyndonCount_X4_power : GoodIn wsX4_lyndonCount wsX4_power := goodIn_r _ [7] (by decide +kernel) (by decide +kernel)
set_option maxRecDepth 20000 in
theorem gX4_lyndonCount_X4_power : GoodIn wsX4_lyndonCount (va_wsS RX4 17 yX4_power wsX4_power) := goodIn_app (goodIn_of _ (by decide +kernel)) ggX4_lyndonCount_X4_power
theorem dX4_lyndonCount_0 : decode cX4_lyndonCount 0 = .ok (.lconst 0, 1) := by decide +kernel
theorem dX4_lyndonCount_1 : decode cX4_lyndonCount 1 = .ok (.lstore_n 2, 1) := by decide +kernel
theorem dX4_lyndonCount_2 : decode cX4_lyndonCount 2 = .ok (.iconst 1, 1) := by decide +kernel
theorem dX4_lyndonCount_3 : decode cX4_lyndonCount 3 = .ok (.istore 4, 2) := by decide +kernel
theorem dX4_lyndonCount_5 : decode cX4_lyndonCount 5 = .ok (.iload 4, 2) := by decide +kernel
theorem dX4_lyndonCount_7 : decode cX4_lyndonCount 7 = .ok (.iload_n 1, 1) := by decide +kernel
theorem dX4_lyndonCount_8 : decode cX4_lyndonCount 8 = .ok (.if_icmp .gt 34, 3) := by decide +kernel
theorem dX4_lyndonCount_11 : decode cX4_lyndonCount 11 = .ok (.iload_n 1, 1) := by decide +kernel
theorem dX4_lyndonCount_12 : decode cX4_lyndonCount 12 = .ok (.iload 4, 2) := by decide +kernel
theorem dX4_lyndonCount_14 : decode cX4_lyndonCount 14 = .ok (.irem, 1) := by decide +kernel
theorem dX4_lyndonCount_15 : decode cX4_lyndonCount 15 = .ok (.ifCond .ne 21, 3) := by decide +kernel
theorem dX4_lyndonCount_18 : decode cX4_lyndonCount 18 = .ok (.lload_n 2, 1) := by decide +kernel
theorem dX4_lyndonCount_19 : decode cX4_lyndonCount 19 = .ok (.iload 4, 2) := by decide +kernel
theorem dX4_lyndonCount_21 : decode cX4_lyndonCount 21 = .ok (.invokestatic 13, 3) := by decide +kernel
theorem dX4_lyndonCount_24 : decode cX4_lyndonCount 24 = .ok (.i2l, 1) := by decide +kernel
theorem dX4_lyndonCount_25 : decode cX4_lyndonCount 25 = .ok (.iload_n 0, 1) := by decide +kernel
theorem dX4_lyndonCount_26 : decode cX4_lyndonCount 26 = .ok (.iload_n 1, 1) := by decide +kernel
theorem dX4_lyndonCount_27 : decode cX4_lyndonCount 27 = .ok (.iload 4, 2) := by decide +kernel
theorem dX4_lyndonCount_29 : decode cX4_lyndonCount 29 = .ok (.idiv, 1) := by decide +kernel
theorem dX4_lyndonCount_30 : decode cX4_lyndonCount 30 = .ok (.invokestatic 17, 3) := by decide +kernel
theorem dX4_lyndonCount_33 : decode cX4_lyndonCount 33 = .ok (.lmul, 1) := by decide +kernel
theorem dX4_lyndonCount_34 : decode cX4_lyndonCount 34 = .ok (.ladd, 1) := by decide +kernel
theorem dX4_lyndonCount_35 : decode cX4_lyndonCount 35 = .ok (.lstore_n 2, 1) := by decide +kernel
theorem dX4_lyndonCount_36 : decode cX4_lyndonCount 36 = .ok (.iinc 4 1, 3) := by decide +kernel
theorem dX4_lyndonCount_39 : decode cX4_lyndonCount 39 = .ok (.goto (-34), 3) := by decide +kernel
theorem dX4_lyndonCount_42 : decode cX4_lyndonCount 42 = .ok (.iload_n 1, 1) := by decide +kernel
theorem dX4_lyndonCount_43 : decode cX4_lyndonCount 43 = .ok (.ifCond .le 10, 3) := by decide +kernel
theorem dX4_lyndonCount_46 : decode cX4_lyndonCount 46 = .ok (.lload_n 2, 1) := by decide +kernel
theorem dX4_lyndonCount_47 : decode cX4_lyndonCount 47 = .ok (.iload_n 1, 1) := by decide +kernel
theorem dX4_lyndonCount_48 : decode cX4_lyndonCount 48 = .ok (.i2l, 1) := by decide +kernel
theorem dX4_lyndonCount_49 : decode cX4_lyndonCount 49 = .ok (.ldiv, 1) := by decide +kernel
theorem dX4_lyndonCount_50 : decode cX4_lyndonCount 50 = .ok (.goto 4, 3) := by decide +kernel
theorem dX4_lyndonCount_53 : decode cX4_lyndonCount 53 = .ok (.lconst 0, 1) := by decide +kernel
theorem dX4_lyndonCount_54 : decode cX4_lyndonCount 54 = .ok (.lreturn, 1) := by decide +kernel
theorem dX4_moebius_0 : decode cX4_moebius 0 = .ok (.iload_n 0, 1) := by decide +kernel
theorem dX4_moebius_1 : decode cX4_moebius 1 = .ok (.istore_n 1, 1) := by decide +kernel
theorem dX4_moebius_2 : decode cX4_moebius 2 = .ok (.iconst 1, 1) := by decide +kernel
theorem dX4_moebius_3 : decode cX4_moebius 3 = .ok (.istore_n 2, 1) := by decide +kernel
theorem dX4_moebius_4 : decode cX4_moebius 4 = .ok (.iconst 2, 1) := by decide +kernel
theorem dX4_moebius_5 : decode cX4_moebius 5 = .ok (.istore_n 3, 1) := by decide +kernel
theorem dX4_moebius_6 : decode cX4_moebius 6 = .ok (.iload_n 3, 1) := by decide +kernel
theorem dX4_moebius_7 : decode cX4_moebius 7 = .ok (.iload_n 0, 1) := by decide +kernel
theorem dX4_moebius_8 : decode cX4_moebius 8 = .ok (.if_icmp .gt 30, 3) := by decide +kernel
theorem dX4_moebius_11 : decode cX4_moebius 11 = .ok (.iload_n 1, 1) := by decide +kernel
theorem dX4_moebius_12 : decode cX4_moebius 12 = .ok (.iload_n 3, 1) := by decide +kernel
theorem dX4_moebius_13 : decode cX4_moebius 13 = .ok (.irem, 1) := by decide +kernel
theorem dX4_moebius_14 : decode cX4_moebius 14 = .ok (.ifCond .ne 18, 3) := by decide +kernel
theorem dX4_moebius_17 : decode cX4_moebius 17 = .ok (.iload_n 1, 1) := by decide +kernel
theorem dX4_moebius_18 : decode cX4_moebius 18 = .ok (.iload_n 3, 1) := by decide +kernel
theorem dX4_moebius_19 : decode cX4_moebius 19 = .ok (.idiv, 1) := by decide +kernel
theorem dX4_moebius_20 : decode cX4_moebius 20 = .ok (.istore_n 1, 1) := by decide +kernel
theorem dX4_moebius_21 : decode cX4_moebius 21 = .ok (.iload_n 2, 1) := by decide +kernel
theorem dX4_moebius_22 : decode cX4_moebius 22 = .ok (.ineg, 1) := by decide +kernel
theorem dX4_moebius_23 : decode cX4_moebius 23 = .ok (.istore_n 2, 1) := by decide +kernel
theorem dX4_moebius_24 : decode cX4_moebius 24 = .ok (.iload_n 1, 1) := by decide +kernel
theorem dX4_moebius_25 : decode cX4_moebius 25 = .ok (.iload_n 3, 1) := by decide +kernel
theorem dX4_moebius_26 : decode cX4_moebius 26 = .ok (.irem, 1) := by decide +kernel
theorem dX4_moebius_27 : decode cX4_moebius 27 = .ok (.ifCond .ne 5, 3) := by decide +kernel
theorem dX4_moebius_30 : decode cX4_moebius 30 = .ok (.iconst 0, 1) := by decide +kernel
theorem dX4_moebius_31 : decode cX4_moebius 31 = .ok (.ireturn, 1) := by decide +kernel
theorem dX4_moebius_32 : decode cX4_moebius 32 = .ok (.iinc 3 1, 3) := by decide +kernel
theorem dX4_moebius_35 : decode cX4_moebius 35 = .ok (.goto (-29), 3) := by decide +kernel
theorem dX4_moebius_38 : decode cX4_moebius 38 = .ok (.iload_n 2, 1) := by decide +kernel
theorem dX4_moebius_39 : decode cX4_moebius 39 = .ok (.ireturn, 1) := by decide +kernel
set_option maxRecDepth 20000 in
theorem ggX5_letter_X2_letter : GoodIn wsX5_letter wsX2_letter := goodIn_r _ [5, 6, 7, 8, 9, 10, 11] (by decide +kernel) (by decide +kernel)
set_option maxRecDepth 20000 in
theorem gX5_letter_X2_letter : GoodIn wsX5_letter (wsV RX5 7 RX2 yX2_letter wsX2_letter) := goodIn_app (goodIn_of _ (by decide +kernel)) ggX5_letter_X2_letter
theorem dX5_letter_0 : decode cX5_letter 0 = .ok (.iload_n 2, 1) := by decide +kernel
theorem dX5_letter_1 : decode cX5_letter 1 = .ok (.iload_n 1, 1) := by decide +kernel
theorem dX5_letter_2 : decode cX5_letter 2 = .ok (.isub, 1) := by decide +kernel
theorem dX5_letter_3 : decode cX5_letter 3 = .ok (.istore 4, 2) := by decide +kernel
theorem dX5_letter_5 : decode cX5_letter 5 = .ok (.iload 4, 2) := by decide +kernel
theorem dX5_letter_7 : decode cX5_letter 7 = .ok (.ifCond .le 16, 3) := by decide +kernel
theorem dX5_letter_10 : decode cX5_letter 10 = .ok (.aload_n 0, 1) := by decide +kernel
theorem dX5_letter_11 : decode cX5_letter 11 = .ok (.iload_n 1, 1) := by decide +kernel
theorem dX5_letter_12 : decode cX5_letter 12 = .ok (.iload_n 3, 1) := by decide +kernel
theorem dX5_letter_13 : decode cX5_letter 13 = .ok (.iload 4, 2) := by decide +kernel
theorem dX5_letter_15 : decode cX5_letter 15 = .ok (.irem, 1) := by decide +kernel
theorem dX5_letter_16 : decode cX5_letter 16 = .ok (.iadd, 1) := by decide +kernel
theorem dX5_letter_17 : decode cX5_letter 17 = .ok (.invokevirtual 7, 3) := by decide +kernel
theorem dX5_letter_20 : decode cX5_letter 20 = .ok (.goto 4, 3) := by decide +kernel
theorem dX5_letter_23 : decode cX5_letter 23 = .ok (.iconst 0, 1) := by decide +kernel
theorem dX5_letter_24 : decode cX5_letter 24 = .ok (.ireturn, 1) := by decide +kernel
set_option maxRecDepth 20000 in
theorem ggX5_least_X5_difference : GoodIn wsX5_least wsX5_difference := goodIn_r _ [4, 5, 6, 3, 7, 8, 9, 10, 11, 12, 13, 14, 15, 16, 17, 18] (by decide +kernel) (by decide +kernel)
set_option maxRecDepth 20000 in
theorem gX5_least_X5_difference : GoodIn wsX5_least (va_wsS RX5 13 yX5_difference wsX5_difference) := goodIn_app (goodIn_of _ (by decide +kernel)) ggX5_least_X5_difference
theorem dX5_least_0 : decode cX5_least 0 = .ok (.iconst 0, 1) := by decide +kernel
theorem dX5_least_1 : decode cX5_least 1 = .ok (.istore_n 3, 1) := by decide +kernel
theorem dX5_least_2 : decode cX5_least 2 = .ok (.iconst 1, 1) := by decide +kernel
theorem dX5_least_3 : decode cX5_least 3 = .ok (.istore 4, 2) := by decide +kernel
theorem dX5_least_5 : decode cX5_least 5 = .ok (.iload 4, 2) := by decide +kernel
theorem dX5_least_7 : decode cX5_least 7 = .ok (.iload_n 2, 1) := by decide +kernel
theorem dX5_least_8 : decode cX5_least 8 = .ok (.iload_n 1, 1) := by decide +kernel
theorem dX5_least_9 : decode cX5_least 9 = .ok (.isub, 1) := by decide +kernel
theorem dX5_least_10 : decode cX5_least 10 = .ok (.if_icmp .ge 24, 3) := by decide +kernel
theorem dX5_least_13 : decode cX5_least 13 = .ok (.aload_n 0, 1) := by decide +kernel
theorem dX5_least_14 : decode cX5_least 14 = .ok (.iload_n 1, 1) := by decide +kernel
theorem dX5_least_15 : decode cX5_least 15 = .ok (.iload_n 2, 1) := by decide +kernel
theorem dX5_least_16 : decode cX5_least 16 = .ok (.iload 4, 2) := by decide +kernel
theorem dX5_least_18 : decode cX5_least 18 = .ok (.iload_n 3, 1) := by decide +kernel
theorem dX5_least_19 : decode cX5_least 19 = .ok (.invokestatic 13, 3) := by decide +kernel
theorem dX5_least_22 : decode cX5_least 22 = .ok (.ifCond .ge 6, 3) := by decide +kernel
theorem dX5_least_25 : decode cX5_least 25 = .ok (.iload 4, 2) := by decide +kernel
theorem dX5_least_27 : decode cX5_least 27 = .ok (.istore_n 3, 1) := by decide +kernel
theorem dX5_least_28 : decode cX5_least 28 = .ok (.iinc 4 1, 3) := by decide +kernel
theorem dX5_least_31 : decode cX5_least 31 = .ok (.goto (-26), 3) := by decide +kernel
theorem dX5_least_34 : decode cX5_least 34 = .ok (.iload_n 3, 1) := by decide +kernel
theorem dX5_least_35 : decode cX5_least 35 = .ok (.ireturn, 1) := by decide +kernel
set_option maxRecDepth 20000 in
theorem ggX5_greatest_X5_difference : GoodIn wsX5_greatest wsX5_difference := goodIn_r _ [4, 5, 6, 3, 7, 8, 9, 10, 11, 12, 13, 14, 15, 16, 17, 18] (by decide +kernel) (by decide +kernel)
set_option maxRecDepth 20000 in
theorem gX5_greatest_X5_difference : GoodIn wsX5_greatest (va_wsS RX5 13 yX5_difference wsX5_difference) := goodIn_app (goodIn_of _ (by decide +kernel)) ggX5_greatest_X5_difference
theorem dX5_greatest_0 : decode cX5_greatest 0 = .ok (.iconst 0, 1) := by decide +kernel
theorem dX5_greatest_1 : decode cX5_greatest 1 = .ok (.istore_n 3, 1) := by decide +kernel
theorem dX5_greatest_2 : decode cX5_greatest 2 = .ok (.iconst 1, 1) := by decide +kernel
theorem dX5_greatest_3 : decode cX5_greatest 3 = .ok (.istore 4, 2) := by decide +kernel
theorem dX5_greatest_5 : decode cX5_greatest 5 = .ok (.iload 4, 2) := by decide +kernel
theorem dX5_greatest_7 : decode cX5_greatest 7 = .ok (.iload_n 2, 1) := by decide +kernel
theorem dX5_greatest_8 : decode cX5_greatest 8 = .ok (.iload_n 1, 1) := by decide +kernel
theorem dX5_greatest_9 : decode cX5_greatest 9 = .ok (.isub, 1) := by decide +kernel
theorem dX5_greatest_10 : decode cX5_greatest 10 = .ok (.if_icmp .ge 24, 3) := by decide +kernel
theorem dX5_greatest_13 : decode cX5_greatest 13 = .ok (.aload_n 0, 1) := by decide +kernel
theorem dX5_greatest_14 : decode cX5_greatest 14 = .ok (.iload_n 1, 1) := by decide +kernel
theorem dX5_greatest_15 : decode cX5_greatest 15 = .ok (.iload_n 2, 1) := by decide +kernel
theorem dX5_greatest_16 : decode cX5_greatest 16 = .ok (.iload 4, 2) := by decide +kernel
theorem dX5_greatest_18 : decode cX5_greatest 18 = .ok (.iload_n 3, 1) := by decide +kernel
theorem dX5_greatest_19 : decode cX5_greatest 19 = .ok (.invokestatic 13, 3) := by decide +kernel
theorem dX5_greatest_22 : decode cX5_greatest 22 = .ok (.ifCond .le 6, 3) := by decide +kernel
theorem dX5_greatest_25 : decode cX5_greatest 25 = .ok (.iload 4, 2) := by decide +kernel
theorem dX5_greatest_27 : decode cX5_greatest 27 = .ok (.istore_n 3, 1) := by decide +kernel
theorem dX5_greatest_28 : decode cX5_greatest 28 = .ok (.iinc 4 1, 3) := by decide +kernel
theorem dX5_greatest_31 : decode cX5_greatest 31 = .ok (.goto (-26), 3) := by decide +kernel
theorem dX5_greatest_34 : decode cX5_greatest 34 = .ok (.iload_n 3, 1) := by decide +kernel
theorem dX5_greatest_35 : decode cX5_greatest 35 = .ok (.ireturn, 1) := by decide +kernel
set_option maxRecDepth 20000 in
theorem ggX5_difference_X5_letter : GoodIn wsX5_difference wsX5_letter := goodIn_r _ [4, 5, 6, 7, 8, 9, 10, 11, 12, 13, 14, 15] (by decide +kernel) (by decide +kernel)
set_option maxRecDepth 20000 in
theorem gX5_difference_X5_letter : GoodIn wsX5_difference (va_wsS RX5 19 yX5_letter wsX5_letter) := goodIn_app (goodIn_of _ (by decide +kernel)) ggX5_difference_X5_letter
theorem dX5_difference_0 : decode cX5_difference 0 = .ok (.iconst 0, 1) := by decide +kernel
theorem dX5_difference_1 : decode cX5_difference 1 = .ok (.istore 5, 2) := by decide +kernel
theorem dX5_difference_3 : decode cX5_difference 3 = .ok (.iconst 0, 1) := by decide +kernel
theorem dX5_difference_4 : decode cX5_difference 4 = .ok (.istore 6, 2) := by decide +kernel
theorem dX5_difference_6 : decode cX5_difference 6 = .ok (.iload 6, 2) := by decide +kernel
theorem dX5_difference_8 : decode cX5_difference 8 = .ok (.iload_n 2, 1) := by decide +kernel
theorem dX5_difference_9 : decode cX5_difference 9 = .ok (.iload_n 1, 1) := by decide +kernel
theorem dX5_difference_10 : decode cX5_difference 10 = .ok (.isub, 1) := by decide +kernel
theorem dX5_difference_11 : decode cX5_difference 11 = .ok (.if_icmp .ge 38, 3) := by decide +kernel
theorem dX5_difference_14 : decode cX5_difference 14 = .ok (.iload 5, 2) := by decide +kernel
theorem dX5_difference_16 : decode cX5_difference 16 = .ok (.ifCond .ne 33, 3) := by decide +kernel
theorem dX5_difference_19 : decode cX5_difference 19 = .ok (.aload_n 0, 1) := by decide +kernel
theorem dX5_difference_20 : decode cX5_difference 20 = .ok (.iload_n 1, 1) := by decide +kernel
theorem dX5_difference_21 : decode cX5_difference 21 = .ok (.iload_n 2, 1) := by decide +kernel
theorem dX5_difference_22 : decode cX5_difference 22 = .ok (.iload_n 3, 1) := by decide +kernel
theorem dX5_difference_23 : decode cX5_difference 23 = .ok (.iload 6, 2) := by decide +kernel
theorem dX5_difference_25 : decode cX5_difference 25 = .ok (.iadd, 1) := by decide +kernel
theorem dX5_difference_26 : decode cX5_difference 26 = .ok (.invokestatic 19, 3) := by decide +kernel
theorem dX5_difference_29 : decode cX5_difference 29 = .ok (.aload_n 0, 1) := by decide +kernel
theorem dX5_difference_30 : decode cX5_difference 30 = .ok (.iload_n 1, 1) := by decide +kernel
theorem dX5_difference_31 : decode cX5_difference 31 = .ok (.iload_n 2, 1) := by decide +kernel
theorem dX5_difference_32 : decode cX5_difference 32 = .ok (.iload 4, 2) := by decide +kernel
theorem dX5_difference_34 : decode cX5_difference 34 = .ok (.iload 6, 2) := by decide +kernel
theorem dX5_difference_36 : decode cX5_difference 36 = .ok (.iadd, 1) := by decide +kernel
theorem dX5_difference_37 : decode cX5_difference 37 = .ok (.invokestatic 19, 3) := by decide +kernel
theorem dX5_difference_40 : decode cX5_difference 40 = .ok (.isub, 1) := by decide +kernel
theorem dX5_difference_41 : decode cX5_difference 41 = .ok (.istore 5, 2) := by decide +kernel
theorem dX5_difference_43 : decode cX5_difference 43 = .ok (.iinc 6 1, 3) := by decide +kernel
theorem dX5_difference_46 : decode cX5_difference 46 = .ok (.goto (-40), 3) := by decide +kernel
theorem dX5_difference_49 : decode cX5_difference 49 = .ok (.iload 5, 2) := by decide +kernel
theorem dX5_difference_51 : decode cX5_difference 51 = .ok (.ireturn, 1) := by decide +kernel
theorem dX6_init_0 : decode cX6_init 0 = .ok (.aload_n 0, 1) := by decide +kernel
theorem dX6_init_1 : decode cX6_init 1 = .ok (.invokespecial 3, 3) := by decide +kernel
theorem dX6_init_4 : decode cX6_init 4 = .ok (.aload_n 0, 1) := by decide +kernel
theorem dX6_init_5 : decode cX6_init 5 = .ok (.bipush 64, 2) := by decide +kernel
theorem dX6_init_7 : decode cX6_init 7 = .ok (.newarray .int, 2) := by decide +kernel
theorem dX6_init_9 : decode cX6_init 9 = .ok (.putfield 9, 3) := by decide +kernel
theorem dX6_init_12 : decode cX6_init 12 = .ok (.aload_n 0, 1) := by decide +kernel
theorem dX6_init_13 : decode cX6_init 13 = .ok (.bipush 64, 2) := by decide +kernel
theorem dX6_init_15 : decode cX6_init 15 = .ok (.newarray .int, 2) := by decide +kernel
theorem dX6_init_17 : decode cX6_init 17 = .ok (.putfield 15, 3) := by decide +kernel
theorem dX6_init_20 : decode cX6_init 20 = .ok (.aload_n 0, 1) := by decide +kernel
theorem dX6_init_21 : decode cX6_init 21 = .ok (.bipush 64, 2) := by decide +kernel
theorem dX6_init_23 : decode cX6_init 23 = .ok (.newarray .int, 2) := by decide +kernel
theorem dX6_init_25 : decode cX6_init 25 = .ok (.putfield 18, 3) := by decide +kernel
theorem dX6_init_28 : decode cX6_init 28 = .ok (.aload_n 0, 1) := by decide +kernel
theorem dX6_init_29 : decode cX6_init 29 = .ok (.iconst 0, 1) := by decide +kernel
theorem dX6_init_30 : decode cX6_init 30 = .ok (.putfield 21, 3) := by decide +kernel
theorem dX6_init_33 : decode cX6_init 33 = .ok (.return_, 1) := by decide +kernel
theorem dX6_count_0 : decode cX6_count 0 = .ok (.aload_n 0, 1) := by decide +kernel
theorem dX6_count_1 : decode cX6_count 1 = .ok (.getfield 21, 3) := by decide +kernel
theorem dX6_count_4 : decode cX6_count 4 = .ok (.ireturn, 1) := by decide +kernel
set_option maxRecDepth 20000 in
theorem ggX6_start_X8_at : GoodIn wsX6_start wsX8_at := goodIn_r _ [4] (by decide +kernel) (by decide +kernel)
set_option maxRecDepth 20000 in
theorem gX6_start_X8_at_n25 : GoodIn wsX6_start (wsX8_at) := ggX6_start_X8_at
theorem dX6_start_0 : decode cX6_start 0 = .ok (.aload_n 0, 1) := by decide +kernel
theorem dX6_start_1 : decode cX6_start 1 = .ok (.getfield 9, 3) := by decide +kernel
theorem dX6_start_4 : decode cX6_start 4 = .ok (.iload_n 1, 1) := by decide +kernel
theorem dX6_start_5 : decode cX6_start 5 = .ok (.invokestatic 25, 3) := by decide +kernel
theorem dX6_start_8 : decode cX6_start 8 = .ok (.ireturn, 1) := by decide +kernel
set_option maxRecDepth 20000 in
theorem ggX6_end_X8_at : GoodIn wsX6_end wsX8_at := goodIn_r _ [4] (by decide +kernel) (by decide +kernel)
set_option maxRecDepth 20000 in
theorem gX6_end_X8_at_n25 : GoodIn wsX6_end (wsX8_at) := ggX6_end_X8_at
theorem dX6_end_0 : decode cX6_end 0 = .ok (.aload_n 0, 1) := by decide +kernel
theorem dX6_end_1 : decode cX6_end 1 = .ok (.getfield 15, 3) := by decide +kernel
theorem dX6_end_4 : decode cX6_end 4 = .ok (.iload_n 1, 1) := by decide +kernel
theorem dX6_end_5 : decode cX6_end 5 = .ok (.invokestatic 25, 3) := by decide +kernel
theorem dX6_end_8 : decode cX6_end 8 = .ok (.ireturn, 1) := by decide +kernel
set_option maxRecDepth 20000 in
theorem ggX6_size_X8_at : GoodIn wsX6_size wsX8_at := goodIn_r _ [5] (by decide +kernel) (by decide +kernel)
set_option maxRecDepth 20000 in
theorem gX6_size_X8_at_n25 : GoodIn wsX6_size (wsX8_at) := ggX6_size_X8_at
theorem dX6_size_0 : decode cX6_size 0 = .ok (.aload_n 0, 1) := by decide +kernel
theorem dX6_size_1 : decode cX6_size 1 = .ok (.getfield 15, 3) := by decide +kernel
theorem dX6_size_4 : decode cX6_size 4 = .ok (.iload_n 1, 1) := by decide +kernel
theorem dX6_size_5 : decode cX6_size 5 = .ok (.invokestatic 25, 3) := by decide +kernel
theorem dX6_size_8 : decode cX6_size 8 = .ok (.aload_n 0, 1) := by decide +kernel
theorem dX6_size_9 : decode cX6_size 9 = .ok (.getfield 9, 3) := by decide +kernel
theorem dX6_size_12 : decode cX6_size 12 = .ok (.iload_n 1, 1) := by decide +kernel
theorem dX6_size_13 : decode cX6_size 13 = .ok (.invokestatic 25, 3) := by decide +kernel
theorem dX6_size_16 : decode cX6_size 16 = .ok (.isub, 1) := by decide +kernel
theorem dX6_size_17 : decode cX6_size 17 = .ok (.ireturn, 1) := by decide +kernel
set_option maxRecDepth 20000 in
theorem ggX6_leastPeriod_X8_at : GoodIn wsX6_leastPeriod wsX8_at := goodIn_r _ [4] (by decide +kernel) (by decide +kernel)
set_option maxRecDepth 20000 in
theorem gX6_leastPeriod_X8_at_n25 : GoodIn wsX6_leastPeriod (wsX8_at) := ggX6_leastPeriod_X8_at
theorem dX6_leastPeriod_0 : decode cX6_leastPeriod 0 = .ok (.aload_n 0, 1) := by decide +kernel
theorem dX6_leastPeriod_1 : decode cX6_leastPeriod 1 = .ok (.getfield 18, 3) := by decide +kernel
theorem dX6_leastPeriod_4 : decode cX6_leastPeriod 4 = .ok (.iload_n 1, 1) := by decide +kernel
theorem dX6_leastPeriod_5 : decode cX6_leastPeriod 5 = .ok (.invokestatic 25, 3) := by decide +kernel
theorem dX6_leastPeriod_8 : decode cX6_leastPeriod 8 = .ok (.ireturn, 1) := by decide +kernel
set_option maxRecDepth 20000 in
theorem ggX6_find_X2_count : GoodIn wsX6_find wsX2_count := goodIn_r _ [6, 7, 46, 47] (by decide +kernel) (by decide +kernel)
set_option maxRecDepth 20000 in
theorem gX6_find_X2_count : GoodIn wsX6_find (wsV RX6 29 RX2 yX2_count wsX2_count) := goodIn_app (goodIn_of _ (by decide +kernel)) ggX6_find_X2_count
set_option maxRecDepth 20000 in
theorem ggX6_find_X6_findOne : GoodIn wsX6_find wsX6_findOne := goodIn_r _ [12, 1, 13, 14, 15, 16, 17, 18, 5, 19, 20, 21, 22, 23, 24, 25, 26, 27, 7, 28, 29, 30, 31, 32, 33, 34, 35, 36, 37, 38, 39, 40, 41, 42, 43, 44, 45, 46, 47] (by decide +kernel) (by decide +kernel)
set_option maxRecDepth 20000 in
theorem gX6_find_X6_findOne : GoodIn wsX6_find (wsV RX6 34 RX6 yX6_findOne wsX6_findOne) := goodIn_app (goodIn_of _ (by decide +kernel)) ggX6_find_X6_findOne
theorem dX6_find_0 : decode cX6_find 0 = .ok (.aload_n 0, 1) := by decide +kernel
theorem dX6_find_1 : decode cX6_find 1 = .ok (.iconst 0, 1) := by decide +kernel
theorem dX6_find_2 : decode cX6_find 2 = .ok (.putfield 21, 3) := by decide +kernel
theorem dX6_find_5 : decode cX6_find 5 = .ok (.iconst 0, 1) := by decide +kernel
theorem dX6_find_6 : decode cX6_find 6 = .ok (.istore_n 2, 1) := by decide +kernel
theorem dX6_find_7 : decode cX6_find 7 = .ok (.iload_n 2, 1) := by decide +kernel
theorem dX6_find_8 : decode cX6_find 8 = .ok (.aload_n 1, 1) := by decide +kernel
theorem dX6_find_9 : decode cX6_find 9 = .ok (.invokevirtual 29, 3) := by decide +kernel
theorem dX6_find_12 : decode cX6_find 12 = .ok (.if_icmp .ge 36, 3) := by decide +kernel
theorem dX6_find_15 : decode cX6_find 15 = .ok (.iconst 1, 1) := by decide +kernel
theorem dX6_find_16 : decode cX6_find 16 = .ok (.istore_n 3, 1) := by decide +kernel
theorem dX6_find_17 : decode cX6_find 17 = .ok (.iload_n 2, 1) := by decide +kernel
theorem dX6_find_18 : decode cX6_find 18 = .ok (.iconst 2, 1) := by decide +kernel
theorem dX6_find_19 : decode cX6_find 19 = .ok (.iload_n 3, 1) := by decide +kernel
theorem dX6_find_20 : decode cX6_find 20 = .ok (.imul, 1) := by decide +kernel
theorem dX6_find_21 : decode cX6_find 21 = .ok (.iadd, 1) := by decide +kernel
theorem dX6_find_22 : decode cX6_find 22 = .ok (.aload_n 1, 1) := by decide +kernel
theorem dX6_find_23 : decode cX6_find 23 = .ok (.invokevirtual 29, 3) := by decide +kernel
theorem dX6_find_26 : decode cX6_find 26 = .ok (.if_icmp .gt 16, 3) := by decide +kernel
theorem dX6_find_29 : decode cX6_find 29 = .ok (.aload_n 0, 1) := by decide +kernel
theorem dX6_find_30 : decode cX6_find 30 = .ok (.aload_n 1, 1) := by decide +kernel
theorem dX6_find_31 : decode cX6_find 31 = .ok (.iload_n 2, 1) := by decide +kernel
theorem dX6_find_32 : decode cX6_find 32 = .ok (.iload_n 3, 1) := by decide +kernel
theorem dX6_find_33 : decode cX6_find 33 = .ok (.invokevirtual 34, 3) := by decide +kernel
theorem dX6_find_36 : decode cX6_find 36 = .ok (.iinc 3 1, 3) := by decide +kernel
theorem dX6_find_39 : decode cX6_find 39 = .ok (.goto (-22), 3) := by decide +kernel
theorem dX6_find_42 : decode cX6_find 42 = .ok (.iinc 2 1, 3) := by decide +kernel
theorem dX6_find_45 : decode cX6_find 45 = .ok (.goto (-38), 3) := by decide +kernel
theorem dX6_find_48 : decode cX6_find 48 = .ok (.return_, 1) := by decide +kernel
set_option maxRecDepth 20000 in
theorem ggX6_findOne_X2_letter : GoodIn wsX6_findOne wsX2_letter := goodIn_r _ [9, 10, 11, 12, 13, 37, 38] (by decide +kernel) (by decide +kernel)
set_option maxRecDepth 20000 in
theorem gX6_findOne_X2_letter : GoodIn wsX6_findOne (wsV RX6 38 RX2 yX2_letter wsX2_letter) := goodIn_app (goodIn_of _ (by decide +kernel)) ggX6_findOne_X2_letter
set_option maxRecDepth 20000 in
theorem ggX6_findOne_X2_countSame : GoodIn wsX6_findOne wsX2_countSame := goodIn_r _ [17, 18, 19, 20, 21, 22, 10, 11, 12, 13, 37, 38] (by decide +kernel) (by decide +kernel)
set_option maxRecDepth 20000 in
theorem gX6_findOne_X2_countSame : GoodIn wsX6_findOne (wsV RX6 42 RX2 yX2_countSame wsX2_countSame) := goodIn_app (goodIn_of _ (by decide +kernel)) ggX6_findOne_X2_countSame
set_option maxRecDepth 20000 in
theorem ggX6_findOne_X2_firstPeriod : GoodIn wsX6_findOne wsX2_firstPeriod := goodIn_r _ [26, 27, 28, 29, 8, 30, 10, 11, 12, 13, 37, 38] (by decide +kernel) (by decide +kernel)
set_option maxRecDepth 20000 in
theorem gX6_findOne_X2_firstPeriod : GoodIn wsX6_findOne (wsV RX6 46 RX2 yX2_firstPeriod wsX2_firstPeriod) := goodIn_app (goodIn_of _ (by decide +kernel)) ggX6_findOne_X2_firstPeriod
set_option maxRecDepth 20000 in
theorem ggX6_findOne_X8_put : GoodIn wsX6_findOne wsX8_put := goodIn_r _ [32] (by decide +kernel) (by decide +kernel)
set_option maxRecDepth 20000 in
theorem gX6_findOne_X8_put_n49 : GoodIn wsX6_findOne (wsX8_put) := ggX6_findOne_X8_put
theorem dX6_findOne_0 : decode cX6_findOne 0 = .ok (.iload_n 2, 1) := by decide +kernel
theorem dX6_findOne_1 : decode cX6_findOne 1 = .ok (.ifCond .le 23, 3) := by decide +kernel
theorem dX6_findOne_4 : decode cX6_findOne 4 = .ok (.aload_n 1, 1) := by decide +kernel
theorem dX6_findOne_5 : decode cX6_findOne 5 = .ok (.iload_n 2, 1) := by decide +kernel
theorem dX6_findOne_6 : decode cX6_findOne 6 = .ok (.iconst 1, 1) := by decide +kernel
theorem dX6_findOne_7 : decode cX6_findOne 7 = .ok (.isub, 1) := by decide +kernel
theorem dX6_findOne_8 : decode cX6_findOne 8 = .ok (.invokevirtual 38, 3) := by decide +kernel
theorem dX6_findOne_11 : decode cX6_findOne 11 = .ok (.aload_n 1, 1) := by decide +kernel
theorem dX6_findOne_12 : decode cX6_findOne 12 = .ok (.iload_n 2, 1) := by decide +kernel
theorem dX6_findOne_13 : decode cX6_findOne 13 = .ok (.iconst 1, 1) := by decide +kernel
theorem dX6_findOne_14 : decode cX6_findOne 14 = .ok (.isub, 1) := by decide +kernel
theorem dX6_findOne_15 : decode cX6_findOne 15 = .ok (.iload_n 3, 1) := by decide +kernel
theorem dX6_findOne_16 : decode cX6_findOne 16 = .ok (.iadd, 1) := by decide +kernel
theorem dX6_findOne_17 : decode cX6_findOne 17 = .ok (.invokevirtual 38, 3) := by decide +kernel
theorem dX6_findOne_20 : decode cX6_findOne 20 = .ok (.if_icmp .ne 4, 3) := by decide +kernel
theorem dX6_findOne_23 : decode cX6_findOne 23 = .ok (.return_, 1) := by decide +kernel
theorem dX6_findOne_24 : decode cX6_findOne 24 = .ok (.iload_n 2, 1) := by decide +kernel
theorem dX6_findOne_25 : decode cX6_findOne 25 = .ok (.iload_n 3, 1) := by decide +kernel
theorem dX6_findOne_26 : decode cX6_findOne 26 = .ok (.iadd, 1) := by decide +kernel
theorem dX6_findOne_27 : decode cX6_findOne 27 = .ok (.aload_n 1, 1) := by decide +kernel
theorem dX6_findOne_28 : decode cX6_findOne 28 = .ok (.iload_n 2, 1) := by decide +kernel
theorem dX6_findOne_29 : decode cX6_findOne 29 = .ok (.iload_n 2, 1) := by decide +kernel
theorem dX6_findOne_30 : decode cX6_findOne 30 = .ok (.iload_n 3, 1) := by decide +kernel
theorem dX6_findOne_31 : decode cX6_findOne 31 = .ok (.iadd, 1) := by decide +kernel
theorem dX6_findOne_32 : decode cX6_findOne 32 = .ok (.invokevirtual 42, 3) := by decide +kernel
theorem dX6_findOne_35 : decode cX6_findOne 35 = .ok (.iadd, 1) := by decide +kernel
theorem dX6_findOne_36 : decode cX6_findOne 36 = .ok (.istore 4, 2) := by decide +kernel
theorem dX6_findOne_38 : decode cX6_findOne 38 = .ok (.iload 4, 2) := by decide +kernel
theorem dX6_findOne_40 : decode cX6_findOne 40 = .ok (.iload_n 2, 1) := by decide +kernel
theorem dX6_findOne_41 : decode cX6_findOne 41 = .ok (.isub, 1) := by decide +kernel
theorem dX6_findOne_42 : decode cX6_findOne 42 = .ok (.iconst 2, 1) := by decide +kernel
theorem dX6_findOne_43 : decode cX6_findOne 43 = .ok (.iload_n 3, 1) := by decide +kernel
theorem dX6_findOne_44 : decode cX6_findOne 44 = .ok (.imul, 1) := by decide +kernel
theorem dX6_findOne_45 : decode cX6_findOne 45 = .ok (.if_icmp .lt 70, 3) := by decide +kernel
theorem dX6_findOne_48 : decode cX6_findOne 48 = .ok (.aload_n 1, 1) := by decide +kernel
theorem dX6_findOne_49 : decode cX6_findOne 49 = .ok (.iload_n 2, 1) := by decide +kernel
theorem dX6_findOne_50 : decode cX6_findOne 50 = .ok (.iload 4, 2) := by decide +kernel
theorem dX6_findOne_52 : decode cX6_findOne 52 = .ok (.invokevirtual 46, 3) := by decide +kernel
theorem dX6_findOne_55 : decode cX6_findOne 55 = .ok (.iload_n 3, 1) := by decide +kernel
theorem dX6_findOne_56 : decode cX6_findOne 56 = .ok (.if_icmp .ne 59, 3) := by decide +kernel
theorem dX6_findOne_59 : decode cX6_findOne 59 = .ok (.aload_n 0, 1) := by decide +kernel
theorem dX6_findOne_60 : decode cX6_findOne 60 = .ok (.getfield 21, 3) := by decide +kernel
theorem dX6_findOne_63 : decode cX6_findOne 63 = .ok (.bipush 64, 2) := by decide +kernel
theorem dX6_findOne_65 : decode cX6_findOne 65 = .ok (.if_icmp .ge 50, 3) := by decide +kernel
theorem dX6_findOne_68 : decode cX6_findOne 68 = .ok (.aload_n 0, 1) := by decide +kernel
theorem dX6_findOne_69 : decode cX6_findOne 69 = .ok (.getfield 9, 3) := by decide +kernel
theorem dX6_findOne_72 : decode cX6_findOne 72 = .ok (.aload_n 0, 1) := by decide +kernel
theorem dX6_findOne_73 : decode cX6_findOne 73 = .ok (.getfield 21, 3) := by decide +kernel
theorem dX6_findOne_76 : decode cX6_findOne 76 = .ok (.iload_n 2, 1) := by decide +kernel
theorem dX6_findOne_77 : decode cX6_findOne 77 = .ok (.invokestatic 49, 3) := by decide +kernel
theorem dX6_findOne_80 : decode cX6_findOne 80 = .ok (.aload_n 0, 1) := by decide +kernel
theorem dX6_findOne_81 : decode cX6_findOne 81 = .ok (.getfield 15, 3) := by decide +kernel
theorem dX6_findOne_84 : decode cX6_findOne 84 = .ok (.aload_n 0, 1) := by decide +kernel
theorem dX6_findOne_85 : decode cX6_findOne 85 = .ok (.getfield 21, 3) := by decide +kernel
theorem dX6_findOne_88 : decode cX6_findOne 88 = .ok (.iload 4, 2) := by decide +kernel
theorem dX6_findOne_90 : decode cX6_findOne 90 = .ok (.invokestatic 49, 3) := by decide +kernel
theorem dX6_findOne_93 : decode cX6_findOne 93 = .ok (.aload_n 0, 1) := by decide +kernel
theorem dX6_findOne_94 : decode cX6_findOne 94 = .ok (.getfield 18, 3) := by decide +kernel
theorem dX6_findOne_97 : decode cX6_findOne 97 = .ok (.aload_n 0, 1) := by decide +kernel
theorem dX6_findOne_98 : decode cX6_findOne 98 = .ok (.getfield 21, 3) := by decide +kernel
theorem dX6_findOne_101 : decode cX6_findOne 101 = .ok (.iload_n 3, 1) := by decide +kernel
theorem dX6_findOne_102 : decode cX6_findOne 102 = .ok (.invokestatic 49, 3) := by decide +kernel
theorem dX6_findOne_105 : decode cX6_findOne 105 = .ok (.aload_n 0, 1) := by decide +kernel
theorem dX6_findOne_106 : decode cX6_findOne 106 = .ok (.dup, 1) := by decide +kernel
theorem dX6_findOne_107 : decode cX6_findOne 107 = .ok (.getfield 21, 3) := by decide +kernel
theorem dX6_findOne_110 : decode cX6_findOne 110 = .ok (.iconst 1, 1) := by decide +kernel
theorem dX6_findOne_111 : decode cX6_findOne 111 = .ok (.iadd, 1) := by decide +kernel
theorem dX6_findOne_112 : decode cX6_findOne 112 = .ok (.putfield 21, 3) := by decide +kernel
theorem dX6_findOne_115 : decode cX6_findOne 115 = .ok (.return_, 1) := by decide +kernel
theorem dX7_init_0 : decode cX7_init 0 = .ok (.aload_n 0, 1) := by decide +kernel
theorem dX7_init_1 : decode cX7_init 1 = .ok (.invokespecial 3, 3) := by decide +kernel
theorem dX7_init_4 : decode cX7_init 4 = .ok (.aload_n 0, 1) := by decide +kernel
theorem dX7_init_5 : decode cX7_init 5 = .ok (.bipush 65, 2) := by decide +kernel
theorem dX7_init_7 : decode cX7_init 7 = .ok (.newarray .int, 2) := by decide +kernel
theorem dX7_init_9 : decode cX7_init 9 = .ok (.putfield 9, 3) := by decide +kernel
theorem dX7_init_12 : decode cX7_init 12 = .ok (.return_, 1) := by decide +kernel
set_option maxRecDepth 20000 in
theorem ggX7_rank_X8_at : GoodIn wsX7_rank wsX8_at := goodIn_r _ [4] (by decide +kernel) (by decide +kernel)
set_option maxRecDepth 20000 in
theorem gX7_rank_X8_at_n15 : GoodIn wsX7_rank (wsX8_at) := ggX7_rank_X8_at
theorem dX7_rank_0 : decode cX7_rank 0 = .ok (.aload_n 0, 1) := by decide +kernel
theorem dX7_rank_1 : decode cX7_rank 1 = .ok (.getfield 9, 3) := by decide +kernel
theorem dX7_rank_4 : decode cX7_rank 4 = .ok (.iload_n 1, 1) := by decide +kernel
theorem dX7_rank_5 : decode cX7_rank 5 = .ok (.invokestatic 15, 3) := by decide +kernel
theorem dX7_rank_8 : decode cX7_rank 8 = .ok (.ireturn, 1) := by decide +kernel
set_option maxRecDepth 20000 in
theorem ggX7_find_X2_count : GoodIn wsX7_find wsX2_count := goodIn_r _ [6, 7, 28, 29] (by decide +kernel) (by decide +kernel)
set_option maxRecDepth 20000 in
theorem gX7_find_X2_count : GoodIn wsX7_find (wsV RX7 19 RX2 yX2_count wsX2_count) := goodIn_app (goodIn_of _ (by decide +kernel)) ggX7_find_X2_count
set_option maxRecDepth 20000 in
theorem ggX7_find_X8_put : GoodIn wsX7_find wsX8_put := goodIn_r _ [10] (by decide +kernel) (by decide +kernel)
set_option maxRecDepth 20000 in
theorem gX7_find_X8_put_n25 : GoodIn wsX7_find (wsX8_put) := ggX7_find_X8_put
set_option maxRecDepth 20000 in
theorem ggX7_find_X7_putInOrder : GoodIn wsX7_find wsX7_putInOrder := goodIn_r _ [15, 1, 2, 3, 4, 5, 6, 7, 16, 17, 18, 14, 19, 20, 21, 22, 23, 24, 25, 9, 26, 8, 10, 27, 28, 29] (by decide +kernel) (by decide +kernel)
set_option maxRecDepth 20000 in
theorem gX7_find_X7_putInOrder : GoodIn wsX7_find (wsV RX7 29 RX7 yX7_putInOrder wsX7_putInOrder) := goodIn_app (goodIn_of _ (by decide +kernel)) ggX7_find_X7_putInOrder
theorem dX7_find_0 : decode cX7_find 0 = .ok (.aload_n 0, 1) := by decide +kernel
theorem dX7_find_1 : decode cX7_find 1 = .ok (.getfield 9, 3) := by decide +kernel
theorem dX7_find_4 : decode cX7_find 4 = .ok (.aload_n 1, 1) := by decide +kernel
theorem dX7_find_5 : decode cX7_find 5 = .ok (.invokevirtual 19, 3) := by decide +kernel
theorem dX7_find_8 : decode cX7_find 8 = .ok (.iconst (-1), 1) := by decide +kernel
theorem dX7_find_9 : decode cX7_find 9 = .ok (.invokestatic 25, 3) := by decide +kernel
theorem dX7_find_12 : decode cX7_find 12 = .ok (.aload_n 1, 1) := by decide +kernel
theorem dX7_find_13 : decode cX7_find 13 = .ok (.invokevirtual 19, 3) := by decide +kernel
theorem dX7_find_16 : decode cX7_find 16 = .ok (.iconst 1, 1) := by decide +kernel
theorem dX7_find_17 : decode cX7_find 17 = .ok (.isub, 1) := by decide +kernel
theorem dX7_find_18 : decode cX7_find 18 = .ok (.istore_n 2, 1) := by decide +kernel
theorem dX7_find_19 : decode cX7_find 19 = .ok (.iload_n 2, 1) := by decide +kernel
theorem dX7_find_20 : decode cX7_find 20 = .ok (.ifCond .lt 15, 3) := by decide +kernel
theorem dX7_find_23 : decode cX7_find 23 = .ok (.aload_n 0, 1) := by decide +kernel
theorem dX7_find_24 : decode cX7_find 24 = .ok (.aload_n 1, 1) := by decide +kernel
theorem dX7_find_25 : decode cX7_find 25 = .ok (.iload_n 2, 1) := by decide +kernel
theorem dX7_find_26 : decode cX7_find 26 = .ok (.invokevirtual 29, 3) := by decide +kernel
theorem dX7_find_29 : decode cX7_find 29 = .ok (.iinc 2 (-1), 3) := by decide +kernel
theorem dX7_find_32 : decode cX7_find 32 = .ok (.goto (-13), 3) := by decide +kernel
theorem dX7_find_35 : decode cX7_find 35 = .ok (.return_, 1) := by decide +kernel
set_option maxRecDepth 20000 in
theorem ggX7_putInOrder_X2_count : GoodIn wsX7_putInOrder wsX2_count := goodIn_r _ [6, 7, 24, 25] (by decide +kernel) (by decide +kernel)
set_option maxRecDepth 20000 in
theorem gX7_putInOrder_X2_count : GoodIn wsX7_putInOrder (wsV RX7 19 RX2 yX2_count wsX2_count) := goodIn_app (goodIn_of _ (by decide +kernel)) ggX7_putInOrder_X2_count
set_option maxRecDepth 20000 in
theorem ggX7_putInOrder_X7_isLess : GoodIn wsX7_putInOrder wsX7_isLess := goodIn_r _ [12, 1, 13, 14, 15, 5, 16, 17, 18, 19, 20, 23, 24, 25] (by decide +kernel) (by decide +kernel)
set_option maxRecDepth 20000 in
theorem gX7_putInOrder_X7_isLess : GoodIn wsX7_putInOrder (wsV RX7 33 RX7 yX7_isLess wsX7_isLess) := goodIn_app (goodIn_of _ (by decide +kernel)) ggX7_putInOrder_X7_isLess
set_option maxRecDepth 20000 in
theorem ggX7_putInOrder_X8_at : GoodIn wsX7_putInOrder wsX8_at := goodIn_r _ [20] (by decide +kernel) (by decide +kernel)
set_option maxRecDepth 20000 in
theorem gX7_putInOrder_X8_at_n15 : GoodIn wsX7_putInOrder (wsX8_at) := ggX7_putInOrder_X8_at
set_option maxRecDepth 20000 in
theorem ggX7_putInOrder_X8_put : GoodIn wsX7_putInOrder wsX8_put := goodIn_r _ [22] (by decide +kernel) (by decide +kernel)
set_option maxRecDepth 20000 in
theorem gX7_putInOrder_X8_put_n25 : GoodIn wsX7_putInOrder (wsX8_put) := ggX7_putInOrder_X8_put
theorem dX7_putInOrder_0 : decode cX7_putInOrder 0 = .ok (.iconst 0, 1) := by decide +kernel
theorem dX7_putInOrder_1 : decode cX7_putInOrder 1 = .ok (.istore_n 3, 1) := by decide +kernel
theorem dX7_putInOrder_2 : decode cX7_putInOrder 2 = .ok (.iload_n 2, 1) := by decide +kernel
theorem dX7_putInOrder_3 : decode cX7_putInOrder 3 = .ok (.iconst 1, 1) := by decide +kernel
theorem dX7_putInOrder_4 : decode cX7_putInOrder 4 = .ok (.iadd, 1) := by decide +kernel
theorem dX7_putInOrder_5 : decode cX7_putInOrder 5 = .ok (.istore 4, 2) := by decide +kernel
theorem dX7_putInOrder_7 : decode cX7_putInOrder 7 = .ok (.iload 4, 2) := by decide +kernel
theorem dX7_putInOrder_9 : decode cX7_putInOrder 9 = .ok (.aload_n 1, 1) := by decide +kernel
theorem dX7_putInOrder_10 : decode cX7_putInOrder 10 = .ok (.invokevirtual 19, 3) := by decide +kernel
theorem dX7_putInOrder_13 : decode cX7_putInOrder 13 = .ok (.if_icmp .ge 23, 3) := by decide +kernel
theorem dX7_putInOrder_16 : decode cX7_putInOrder 16 = .ok (.aload_n 0, 1) := by decide +kernel
theorem dX7_putInOrder_17 : decode cX7_putInOrder 17 = .ok (.aload_n 1, 1) := by decide +kernel
theorem dX7_putInOrder_18 : decode cX7_putInOrder 18 = .ok (.iload 4, 2) := by decide +kernel
theorem dX7_putInOrder_20 : decode cX7_putInOrder 20 = .ok (.iload_n 2, 1) := by decide +kernel
theorem dX7_putInOrder_21 : decode cX7_putInOrder 21 = .ok (.invokevirtual 33, 3) := by decide +kernel
theorem dX7_putInOrder_24 : decode cX7_putInOrder 24 = .ok (.ifCond .eq 6, 3) := by decide +kernel
theorem dX7_putInOrder_27 : decode cX7_putInOrder 27 = .ok (.iinc 3 1, 3) := by decide +kernel
