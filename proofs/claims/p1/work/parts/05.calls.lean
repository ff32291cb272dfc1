set_option maxRecDepth 20000 in
theorem ggX0_measure_J6_numberOfTrailingZeros_0f7a4 : GoodIn wsX0_measure wsJ6_numberOfTrailingZeros_0f7a4 := goodIn_r _ [14, 15] (by decide +kernel) (by decide +kernel)
set_option maxRecDepth 20000 in
theorem gX0_measure_J6_numberOfTrailingZeros_0f7a4 : GoodIn wsX0_measure (va_wsS RX0 38 yJ6_numberOfTrailingZeros_0f7a4 wsJ6_numberOfTrailingZeros_0f7a4) := goodIn_app (goodIn_of _ (by decide +kernel)) ggX0_measure_J6_numberOfTrailingZeros_0f7a4
set_option maxRecDepth 20000 in
theorem ggX0_measure_X9_ringOf : GoodIn wsX0_measure wsX9_ringOf := goodIn_r _ [20, 21, 22, 23, 9, 6, 10, 24, 25, 26, 27, 28, 29, 30, 31, 32, 33, 34, 35, 36, 37, 38, 39, 40, 41, 42, 43, 44, 45, 46, 47, 54, 55, 56, 57, 58, 59, 60, 61, 62, 63, 64] (by decide +kernel) (by decide +kernel)
set_option maxRecDepth 20000 in
theorem gX0_measure_X9_ringOf : GoodIn wsX0_measure (wsV RX0 44 RX9 yX9_ringOf wsX9_ringOf) := goodIn_app (goodIn_of _ (by decide +kernel)) ggX0_measure_X9_ringOf
set_option maxRecDepth 20000 in
theorem ggX0_mostInOneRing_X0_apart : GoodIn wsX0_mostInOneRing wsX0_apart := goodIn_r _ [7, 8, 9, 33, 34, 35, 36, 37, 38] (by decide +kernel) (by decide +kernel)
set_option maxRecDepth 20000 in
theorem gX0_mostInOneRing_X0_apart : GoodIn wsX0_mostInOneRing (wsV RX0 59 RX0 yX0_apart wsX0_apart) := goodIn_app (goodIn_of _ (by decide +kernel)) ggX0_mostInOneRing_X0_apart
set_option maxRecDepth 20000 in
theorem ggX0_mostInOneRing_J6_bitCount_0f7a4 : GoodIn wsX0_mostInOneRing wsJ6_bitCount_0f7a4 := goodIn_r _ [13, 14, 15, 16] (by decide +kernel) (by decide +kernel)
set_option maxRecDepth 20000 in
theorem gX0_mostInOneRing_J6_bitCount_0f7a4 : GoodIn wsX0_mostInOneRing (va_wsS RX0 65 yJ6_bitCount_0f7a4 wsJ6_bitCount_0f7a4) := goodIn_app (goodIn_of _ (by decide +kernel)) ggX0_mostInOneRing_J6_bitCount_0f7a4
set_option maxRecDepth 20000 in
theorem ggX0_nearest_J6_bitCount_0f7a4 : GoodIn wsX0_nearest wsJ6_bitCount_0f7a4 := goodIn_r _ [5, 6, 7, 8] (by decide +kernel) (by decide +kernel)
set_option maxRecDepth 20000 in
theorem gX0_nearest_J6_bitCount_0f7a4 : GoodIn wsX0_nearest (va_wsS RX0 65 yJ6_bitCount_0f7a4 wsJ6_bitCount_0f7a4) := goodIn_app (goodIn_of _ (by decide +kernel)) ggX0_nearest_J6_bitCount_0f7a4
set_option maxRecDepth 20000 in
theorem ggX0_nearest_X0_apart : GoodIn wsX0_nearest wsX0_apart := goodIn_r _ [13, 14, 15, 32, 33, 34, 35, 36, 37] (by decide +kernel) (by decide +kernel)
set_option maxRecDepth 20000 in
theorem gX0_nearest_X0_apart : GoodIn wsX0_nearest (wsV RX0 59 RX0 yX0_apart wsX0_apart) := goodIn_app (goodIn_of _ (by decide +kernel)) ggX0_nearest_X0_apart
set_option maxRecDepth 20000 in
theorem ggX0_weigh_J6_numberOfTrailingZeros_0f7a4 : GoodIn wsX0_weigh wsJ6_numberOfTrailingZeros_0f7a4 := goodIn_r _ [8, 9] (by decide +kernel) (by decide +kernel)
set_option maxRecDepth 20000 in
theorem gX0_weigh_J6_numberOfTrailingZeros_0f7a4 : GoodIn wsX0_weigh (va_wsS RX0 38 yJ6_numberOfTrailingZeros_0f7a4 wsJ6_numberOfTrailingZeros_0f7a4) := goodIn_app (goodIn_of _ (by decide +kernel)) ggX0_weigh_J6_numberOfTrailingZeros_0f7a4
set_option maxRecDepth 20000 in
theorem ggX0_freeWeight_X0_apart : GoodIn wsX0_freeWeight wsX0_apart := goodIn_r _ [7, 8, 9, 10, 11, 12, 13, 14, 15] (by decide +kernel) (by decide +kernel)
set_option maxRecDepth 20000 in
theorem gX0_freeWeight_X0_apart : GoodIn wsX0_freeWeight (wsV RX0 59 RX0 yX0_apart wsX0_apart) := goodIn_app (goodIn_of _ (by decide +kernel)) ggX0_freeWeight_X0_apart
set_option maxRecDepth 20000 in
theorem ggX0_likeliest_J6_bitCount_0f7a4 : GoodIn wsX0_likeliest wsJ6_bitCount_0f7a4 := goodIn_r _ [7, 8, 9, 10] (by decide +kernel) (by decide +kernel)
set_option maxRecDepth 20000 in
theorem gX0_likeliest_J6_bitCount_0f7a4 : GoodIn wsX0_likeliest (va_wsS RX0 65 yJ6_bitCount_0f7a4 wsJ6_bitCount_0f7a4) := goodIn_app (goodIn_of _ (by decide +kernel)) ggX0_likeliest_J6_bitCount_0f7a4
set_option maxRecDepth 20000 in
theorem ggX0_likeliest_X0_freeWeight : GoodIn wsX0_likeliest wsX0_freeWeight := goodIn_r _ [15, 16, 17, 18, 19, 20, 14, 21, 22, 23, 40, 41, 42, 43, 44, 45] (by decide +kernel) (by decide +kernel)
set_option maxRecDepth 20000 in
theorem gX0_likeliest_X0_freeWeight : GoodIn wsX0_likeliest (wsV RX0 73 RX0 yX0_freeWeight wsX0_freeWeight) := goodIn_app (goodIn_of _ (by decide +kernel)) ggX0_likeliest_X0_freeWeight
set_option maxRecDepth 20000 in
theorem ggX0_partOfFreeWeight_X0_freeWeight : GoodIn wsX0_partOfFreeWeight wsX0_freeWeight := goodIn_r _ [6, 7, 8, 9, 10, 11, 5, 12, 13, 14, 25, 26, 27, 28, 29, 30] (by decide +kernel) (by decide +kernel)
set_option maxRecDepth 20000 in
theorem gX0_partOfFreeWeight_X0_freeWeight : GoodIn wsX0_partOfFreeWeight (wsV RX0 73 RX0 yX0_freeWeight wsX0_freeWeight) := goodIn_app (goodIn_of _ (by decide +kernel)) ggX0_partOfFreeWeight_X0_freeWeight
set_option maxRecDepth 20000 in
theorem ggX0_partOfFreeWeight_J6_bitCount_0f7a4 : GoodIn wsX0_partOfFreeWeight wsJ6_bitCount_0f7a4 := goodIn_r _ [18, 19, 20, 21] (by decide +kernel) (by decide +kernel)
set_option maxRecDepth 20000 in
theorem gX0_partOfFreeWeight_J6_bitCount_0f7a4 : GoodIn wsX0_partOfFreeWeight (va_wsS RX0 65 yJ6_bitCount_0f7a4 wsJ6_bitCount_0f7a4) := goodIn_app (goodIn_of _ (by decide +kernel)) ggX0_partOfFreeWeight_J6_bitCount_0f7a4
set_option maxRecDepth 20000 in
theorem ggX0_partOfFreeWeight_X0_commonDivisor : GoodIn wsX0_partOfFreeWeight wsX0_commonDivisor := goodIn_r _ [24] (by decide +kernel) (by decide +kernel)
set_option maxRecDepth 20000 in
theorem gX0_partOfFreeWeight_X0_commonDivisor : GoodIn wsX0_partOfFreeWeight (va_wsS RX0 79 yX0_commonDivisor wsX0_commonDivisor) := goodIn_app (goodIn_of _ (by decide +kernel)) ggX0_partOfFreeWeight_X0_commonDivisor
set_option maxRecDepth 20000 in
theorem ggX0_judgeStrikes_J6_bitCount_0f7a4 : GoodIn wsX0_judgeStrikes wsJ6_bitCount_0f7a4 := goodIn_r _ [5, 6, 7, 8] (by decide +kernel) (by decide +kernel)
set_option maxRecDepth 20000 in
theorem gX0_judgeStrikes_J6_bitCount_0f7a4 : GoodIn wsX0_judgeStrikes (va_wsS RX0 65 yJ6_bitCount_0f7a4 wsJ6_bitCount_0f7a4) := goodIn_app (goodIn_of _ (by decide +kernel)) ggX0_judgeStrikes_J6_bitCount_0f7a4
set_option maxRecDepth 20000 in
theorem ggX0_judgeStrikes_X0_apart : GoodIn wsX0_judgeStrikes wsX0_apart := goodIn_r _ [13, 14, 15, 20, 21, 22, 23, 24, 25] (by decide +kernel) (by decide +kernel)
set_option maxRecDepth 20000 in
theorem gX0_judgeStrikes_X0_apart : GoodIn wsX0_judgeStrikes (wsV RX0 59 RX0 yX0_apart wsX0_apart) := goodIn_app (goodIn_of _ (by decide +kernel)) ggX0_judgeStrikes_X0_apart
set_option maxRecDepth 20000 in
theorem ggX0_judgeStrikes_X0_freesByStrike : GoodIn wsX0_judgeStrikes wsX0_freesByStrike := goodIn_r _ [19, 1, 20, 21, 22, 23, 24, 25] (by decide +kernel) (by decide +kernel)
set_option maxRecDepth 20000 in
theorem gX0_judgeStrikes_X0_freesByStrike : GoodIn wsX0_judgeStrikes (wsV RX0 86 RX0 yX0_freesByStrike wsX0_freesByStrike) := goodIn_app (goodIn_of _ (by decide +kernel)) ggX0_judgeStrikes_X0_freesByStrike
set_option maxRecDepth 20000 in
theorem ggX0_fewestBeaten_J6_bitCount_0f7a4 : GoodIn wsX0_fewestBeaten wsJ6_bitCount_0f7a4 := goodIn_r _ [7, 8, 9, 10] (by decide +kernel) (by decide +kernel)
set_option maxRecDepth 20000 in
theorem gX0_fewestBeaten_J6_bitCount_0f7a4 : GoodIn wsX0_fewestBeaten (va_wsS RX0 65 yJ6_bitCount_0f7a4 wsJ6_bitCount_0f7a4) := goodIn_app (goodIn_of _ (by decide +kernel)) ggX0_fewestBeaten_J6_bitCount_0f7a4
set_option maxRecDepth 20000 in
theorem ggX0_fewestBeaten_X9_apart : GoodIn wsX0_fewestBeaten wsX9_apart := goodIn_r _ [15, 16, 17, 18, 19, 20, 21, 22, 23, 24, 25, 26, 27, 28, 29, 30, 31, 32, 33, 34, 14, 35, 36, 37, 38, 39, 40, 41, 42, 43, 44, 45, 46, 47, 48, 49, 50, 51, 52, 53, 54, 55, 56, 57, 58, 59, 60, 61, 62, 63, 64] (by decide +kernel) (by decide +kernel)
set_option maxRecDepth 20000 in
theorem gX0_fewestBeaten_X9_apart : GoodIn wsX0_fewestBeaten (wsV RX0 93 RX9 yX9_apart wsX9_apart) := goodIn_app (goodIn_of _ (by decide +kernel)) ggX0_fewestBeaten_X9_apart
set_option maxRecDepth 20000 in
theorem ggX1_readLines_X6_begin : GoodIn wsX1_readLines wsX6_begin := goodIn_r _ [7, 8, 9, 10, 11, 12, 13, 14, 6, 15, 16, 17, 18, 19, 20, 21, 22, 23, 24, 25, 26, 27, 28, 29, 30, 31, 32, 33, 34, 35, 36, 37, 124, 125, 126, 127, 128, 129, 130, 131, 132, 133] (by decide +kernel) (by decide +kernel)
set_option maxRecDepth 20000 in
theorem gX1_readLines_X6_begin : GoodIn wsX1_readLines (wsV RX1 26 RX6 yX6_begin wsX6_begin) := goodIn_app (goodIn_of _ (by decide +kernel)) ggX1_readLines_X6_begin
set_option maxRecDepth 20000 in
theorem ggX1_readLines_X6_goesOn : GoodIn wsX1_readLines wsX6_goesOn := goodIn_r _ [41, 24, 25, 26, 27, 6, 28, 10, 124, 125, 126, 127, 128, 129, 130, 131, 132, 133] (by decide +kernel) (by decide +kernel)
set_option maxRecDepth 20000 in
theorem gX1_readLines_X6_goesOn : GoodIn wsX1_readLines (wsV RX1 32 RX6 yX6_goesOn wsX6_goesOn) := goodIn_app (goodIn_of _ (by decide +kernel)) ggX1_readLines_X6_goesOn
set_option maxRecDepth 20000 in
theorem ggX1_readLines_X1_readLine : GoodIn wsX1_readLines wsX1_readLine := goodIn_r _ [46, 2, 47, 1, 48, 49, 50, 51, 52, 45, 53, 54, 55, 56, 57, 58, 59, 6, 60, 24, 22, 61, 62, 63, 64, 65, 66, 67, 68, 69, 70, 71, 72, 73, 74, 75, 76, 77, 78, 79, 10, 23, 11, 25, 26, 27, 28, 80, 13, 14, 15, 16, 8, 17, 18, 19, 20, 9, 21, 29, 30, 31, 32, 33, 34, 35, 36, 37, 81, 82, 83, 84, 85, 86, 87, 88, 89, 90, 91, 92, 93, 94, 12, 95, 96, 97, 98, 99, 100, 101, 102, 103, 104, 105, 106, 107, 108, 109, 110, 111, 112, 113, 114, 115, 116, 117, 118, 119, 120, 121, 122, 123, 124, 125, 126, 127, 128, 129, 130, 131, 132, 133, 134, 135, 136, 137, 138, 139, 140, 141, 142, 143, 144, 145, 146, 147, 148, 149] (by decide +kernel) (by decide +kernel)
set_option maxRecDepth 20000 in
theorem gX1_readLines_X1_readLine : GoodIn wsX1_readLines (wsV RX1 36 RX1 yX1_readLine wsX1_readLine) := goodIn_app (goodIn_of _ (by decide +kernel)) ggX1_readLines_X1_readLine
set_option maxRecDepth 20000 in
theorem ggX1_readLine_X1_firstAct : GoodIn wsX1_readLine wsX1_firstAct := goodIn_r _ [10, 1, 11, 12, 13, 14, 15, 16, 17, 18, 19, 20, 21, 108, 109, 110, 111, 112, 113, 114, 115, 116, 117, 118, 119, 120, 121] (by decide +kernel) (by decide +kernel)
set_option maxRecDepth 20000 in
theorem gX1_readLine_X1_firstAct : GoodIn wsX1_readLine (wsV RX1 40 RX1 yX1_firstAct wsX1_firstAct) := goodIn_app (goodIn_of _ (by decide +kernel)) ggX1_readLine_X1_firstAct
set_option maxRecDepth 20000 in
theorem ggX1_readLine_X5_jurorNamed : GoodIn wsX1_readLine wsX5_jurorNamed := goodIn_r _ [26, 27, 28, 29, 30, 25, 31, 122, 123, 124, 125, 126, 127, 128, 129, 130, 131, 132, 133, 134, 135, 136, 137] (by decide +kernel) (by decide +kernel)
set_option maxRecDepth 20000 in
theorem gX1_readLine_X5_jurorNamed : GoodIn wsX1_readLine (wsV RX1 48 RX5 yX5_jurorNamed wsX5_jurorNamed) := goodIn_app (goodIn_of _ (by decide +kernel)) ggX1_readLine_X5_jurorNamed
set_option maxRecDepth 20000 in
theorem ggX1_readLine_X6_seesName : GoodIn wsX1_readLine wsX6_seesName := goodIn_r _ [35, 19, 20, 21, 112, 113, 114, 115, 116, 117, 118, 119, 120, 121] (by decide +kernel) (by decide +kernel)
set_option maxRecDepth 20000 in
theorem gX1_readLine_X6_seesName : GoodIn wsX1_readLine (wsV RX1 54 RX6 yX6_seesName wsX6_seesName) := goodIn_app (goodIn_of _ (by decide +kernel)) ggX1_readLine_X6_seesName
set_option maxRecDepth 20000 in
theorem ggX1_readLine_X6_fail : GoodIn wsX1_readLine wsX6_fail := goodIn_r _ [39, 40, 41, 42, 19, 20, 43, 44, 45, 17, 46, 112, 113, 114, 115, 116, 117, 118, 119, 120, 121] (by decide +kernel) (by decide +kernel)
set_option maxRecDepth 20000 in
theorem gX1_readLine_X6_fail : GoodIn wsX1_readLine (wsV RX1 57 RX6 yX6_fail wsX6_fail) := goodIn_app (goodIn_of _ (by decide +kernel)) ggX1_readLine_X6_fail
set_option maxRecDepth 20000 in
theorem ggX1_readLine_X6_advance : GoodIn wsX1_readLine wsX6_advance := goodIn_r _ [50, 51, 52, 53, 54, 55, 56, 57, 58, 20, 41, 19, 43, 44, 45, 17, 46, 40, 59, 60, 61, 62, 63, 64, 65, 66, 67, 112, 113, 114, 115, 116, 117, 118, 119, 120, 121] (by decide +kernel) (by decide +kernel)
set_option maxRecDepth 20000 in
theorem gX1_readLine_X6_advance : GoodIn wsX1_readLine (wsV RX1 60 RX6 yX6_advance wsX6_advance) := goodIn_app (goodIn_of _ (by decide +kernel)) ggX1_readLine_X6_advance
set_option maxRecDepth 20000 in
theorem ggX1_readLine_X1_takeJurorsAct : GoodIn wsX1_readLine wsX1_takeJurorsAct := goodIn_r _ [71, 1, 72, 73, 74, 75, 76, 77, 78, 79, 17, 80, 81, 15, 16, 18, 19, 20, 21, 82, 48, 49, 50, 51, 52, 53, 54, 55, 56, 57, 58, 41, 43, 44, 45, 46, 40, 59, 60, 61, 62, 63, 64, 65, 66, 67, 36, 37, 38, 39, 42, 108, 109, 110, 111, 112, 113, 114, 115, 116, 117, 118, 119, 120, 121] (by decide +kernel) (by decide +kernel)
set_option maxRecDepth 20000 in
theorem gX1_readLine_X1_takeJurorsAct : GoodIn wsX1_readLine (wsV RX1 63 RX1 yX1_takeJurorsAct wsX1_takeJurorsAct) := goodIn_app (goodIn_of _ (by decide +kernel)) ggX1_readLine_X1_takeJurorsAct
set_option maxRecDepth 20000 in
theorem ggX1_readLine_X6_takeNumber : GoodIn wsX1_readLine wsX6_takeNumber := goodIn_r _ [86, 19, 63, 87, 37, 38, 17, 39, 40, 41, 42, 20, 43, 44, 45, 46, 82, 48, 49, 50, 51, 52, 53, 54, 55, 56, 57, 58, 59, 60, 61, 62, 64, 65, 66, 67, 112, 113, 114, 115, 116, 117, 118, 119, 120, 121] (by decide +kernel) (by decide +kernel)
set_option maxRecDepth 20000 in
theorem gX1_readLine_X6_takeNumber : GoodIn wsX1_readLine (wsV RX1 66 RX6 yX6_takeNumber wsX6_takeNumber) := goodIn_app (goodIn_of _ (by decide +kernel)) ggX1_readLine_X6_takeNumber
set_option maxRecDepth 20000 in
theorem ggX1_readLine_X5_caseNamed : GoodIn wsX1_readLine wsX5_caseNamed := goodIn_r _ [91, 92, 93, 29, 30, 25, 31, 122, 123, 124, 125, 126, 127, 128, 129, 130, 131, 132, 133, 134, 135, 136, 137] (by decide +kernel) (by decide +kernel)
set_option maxRecDepth 20000 in
theorem gX1_readLine_X5_caseNamed : GoodIn wsX1_readLine (wsV RX1 70 RX5 yX5_caseNamed wsX5_caseNamed) := goodIn_app (goodIn_of _ (by decide +kernel)) ggX1_readLine_X5_caseNamed
set_option maxRecDepth 20000 in
theorem ggX1_readLine_X6_takeFound : GoodIn wsX1_readLine wsX6_takeFound := goodIn_r _ [97, 98, 33, 34, 17, 35, 19, 20, 21, 87, 37, 38, 39, 40, 41, 42, 43, 44, 45, 46, 82, 48, 49, 50, 51, 52, 53, 54, 55, 56, 57, 58, 59, 60, 61, 62, 63, 64, 65, 66, 67, 112, 113, 114, 115, 116, 117, 118, 119, 120, 121] (by decide +kernel) (by decide +kernel)
set_option maxRecDepth 20000 in
theorem gX1_readLine_X6_takeFound : GoodIn wsX1_readLine (wsV RX1 73 RX6 yX6_takeFound wsX6_takeFound) := goodIn_app (goodIn_of _ (by decide +kernel)) ggX1_readLine_X6_takeFound
set_option maxRecDepth 20000 in
theorem ggX1_readLine_X6_takeSign : GoodIn wsX1_readLine wsX6_takeSign := goodIn_r _ [102, 103, 104, 105, 17, 106, 19, 82, 48, 49, 50, 51, 52, 53, 54, 55, 56, 57, 58, 20, 41, 43, 44, 45, 46, 40, 59, 60, 61, 62, 63, 64, 65, 66, 67, 87, 37, 38, 39, 42, 112, 113, 114, 115, 116, 117, 118, 119, 120, 121] (by decide +kernel) (by decide +kernel)
set_option maxRecDepth 20000 in
theorem gX1_readLine_X6_takeSign : GoodIn wsX1_readLine (wsV RX1 77 RX6 yX6_takeSign wsX6_takeSign) := goodIn_app (goodIn_of _ (by decide +kernel)) ggX1_readLine_X6_takeSign
set_option maxRecDepth 20000 in
theorem ggX1_readLine_X6_isBroken : GoodIn wsX1_readLine wsX6_isBroken := goodIn_r _ [46, 40, 112, 113, 114, 115, 116, 117, 118, 119, 120, 121] (by decide +kernel) (by decide +kernel)
set_option maxRecDepth 20000 in
theorem gX1_readLine_X6_isBroken : GoodIn wsX1_readLine (wsV RX1 80 RX6 yX6_isBroken wsX6_isBroken) := goodIn_app (goodIn_of _ (by decide +kernel)) ggX1_readLine_X6_isBroken
set_option maxRecDepth 20000 in
theorem ggX1_firstAct_X6_sees : GoodIn wsX1_firstAct wsX6_sees := goodIn_r _ [9, 10, 11, 12, 17, 18, 19, 20, 21, 22, 23, 24, 25, 26] (by decide +kernel) (by decide +kernel)
set_option maxRecDepth 20000 in
theorem gX1_firstAct_X6_sees : GoodIn wsX1_firstAct (wsV RX1 89 RX6 yX6_sees wsX6_sees) := goodIn_app (goodIn_of _ (by decide +kernel)) ggX1_firstAct_X6_sees
set_option maxRecDepth 20000 in
theorem ggX1_takeJurorsAct_X6_takeIf : GoodIn wsX1_takeJurorsAct wsX6_takeIf := goodIn_r _ [11, 12, 13, 14, 10, 15, 16, 17, 18, 19, 20, 21, 22, 23, 24, 25, 26, 27, 28, 29, 30, 31, 32, 33, 34, 35, 36, 37, 38, 39, 40, 41, 42, 43, 44, 45, 55, 56, 57, 58, 59, 60, 61, 62, 63, 64] (by decide +kernel) (by decide +kernel)
set_option maxRecDepth 20000 in
theorem gX1_takeJurorsAct_X6_takeIf : GoodIn wsX1_takeJurorsAct (wsV RX1 102 RX6 yX6_takeIf wsX6_takeIf) := goodIn_app (goodIn_of _ (by decide +kernel)) ggX1_takeJurorsAct_X6_takeIf
set_option maxRecDepth 20000 in
theorem ggX1_takeJurorsAct_X6_fail : GoodIn wsX1_takeJurorsAct wsX6_fail := goodIn_r _ [49, 36, 31, 50, 16, 17, 32, 33, 34, 10, 35, 55, 56, 57, 58, 59, 60, 61, 62, 63, 64] (by decide +kernel) (by decide +kernel)
set_option maxRecDepth 20000 in
theorem gX1_takeJurorsAct_X6_fail : GoodIn wsX1_takeJurorsAct (wsV RX1 57 RX6 yX6_fail wsX6_fail) := goodIn_app (goodIn_of _ (by decide +kernel)) ggX1_takeJurorsAct_X6_fail
set_option maxRecDepth 20000 in
theorem ggX2_init_X5_init : GoodIn wsX2_init wsX5_init := goodIn_r _ [10, 11, 2, 3, 12, 13, 14, 15, 16, 17, 18, 19, 20, 21, 22, 23, 24, 25, 26, 27, 28, 29, 30, 31, 32, 33, 34, 35, 36, 37, 38, 39] (by decide +kernel) (by decide +kernel)
set_option maxRecDepth 20000 in
theorem gX2_init_X5_init_n11 : GoodIn wsX2_init (wsX5_init) := ggX2_init_X5_init
set_option maxRecDepth 20000 in
theorem ggX2_readLines_X5_empty : GoodIn wsX2_readLines wsX5_empty := goodIn_r _ [9, 10, 11, 12, 13, 14, 15, 16, 182, 183, 184, 185, 186, 187, 188, 189, 190, 191, 192, 193, 194, 195, 196, 197] (by decide +kernel) (by decide +kernel)
set_option maxRecDepth 20000 in
theorem gX2_readLines_X5_empty : GoodIn wsX2_readLines (wsV RX2 22 RX5 yX5_empty wsX5_empty) := goodIn_app (goodIn_of _ (by decide +kernel)) ggX2_readLines_X5_empty
set_option maxRecDepth 20000 in
theorem ggX2_readLines_X6_begin : GoodIn wsX2_readLines wsX6_begin := goodIn_r _ [21, 22, 23, 24, 25, 26, 27, 28, 20, 29, 30, 31, 32, 33, 34, 35, 36, 37, 38, 39, 40, 41, 42, 43, 44, 45, 46, 47, 48, 49, 50, 51, 198, 199, 200, 201, 202, 203, 204, 205, 206, 207] (by decide +kernel) (by decide +kernel)
set_option maxRecDepth 20000 in
theorem gX2_readLines_X6_begin : GoodIn wsX2_readLines (wsV RX2 32 RX6 yX6_begin wsX6_begin) := goodIn_app (goodIn_of _ (by decide +kernel)) ggX2_readLines_X6_begin
set_option maxRecDepth 20000 in
theorem ggX2_readLines_X6_goesOn : GoodIn wsX2_readLines wsX6_goesOn := goodIn_r _ [55, 38, 39, 40, 41, 20, 42, 24, 198, 199, 200, 201, 202, 203, 204, 205, 206, 207] (by decide +kernel) (by decide +kernel)
set_option maxRecDepth 20000 in
theorem gX2_readLines_X6_goesOn : GoodIn wsX2_readLines (wsV RX2 38 RX6 yX6_goesOn wsX6_goesOn) := goodIn_app (goodIn_of _ (by decide +kernel)) ggX2_readLines_X6_goesOn
set_option maxRecDepth 20000 in
theorem ggX2_readLines_X2_readLine : GoodIn wsX2_readLines wsX2_readLine := goodIn_r _ [60, 4, 61, 62, 63, 64, 65, 66, 67, 68, 69, 20, 70, 38, 36, 71, 72, 73, 74, 59, 75, 1, 76, 77, 78, 79, 80, 81, 82, 83, 84, 85, 86, 87, 24, 37, 25, 39, 40, 41, 42, 88, 27, 28, 29, 30, 22, 31, 32, 33, 34, 23, 35, 43, 44, 45, 46, 47, 48, 49, 50, 51, 89, 90, 91, 8, 92, 93, 94, 95, 96, 97, 10, 98, 99, 100, 101, 102, 103, 104, 105, 11, 106, 107, 108, 109, 110, 12, 111, 112, 113, 114, 115, 116, 117, 118, 119, 26, 120, 121, 122, 123, 124, 125, 126, 127, 128, 129, 130, 131, 132, 133, 134, 135, 136, 137, 138, 139, 140, 141, 142, 143, 144, 145, 146, 147, 148, 149, 150, 151, 152, 153, 154, 155, 156, 157, 158, 159, 160, 161, 162, 163, 164, 165, 166, 167, 168, 169, 170, 171, 2, 172, 173, 174, 175, 176, 3, 177, 178, 179, 180, 181, 198, 199, 200, 201, 202, 203, 204, 205, 206, 207, 182, 183, 184, 185, 186, 187, 188, 189, 190, 191, 192, 193, 194, 195, 196, 197] (by decide +kernel) (by decide +kernel)
set_option maxRecDepth 20000 in
theorem gX2_readLines_X2_readLine : GoodIn wsX2_readLines (wsV RX2 42 RX2 yX2_readLine wsX2_readLine) := goodIn_app (goodIn_of _ (by decide +kernel)) ggX2_readLines_X2_readLine
set_option maxRecDepth 20000 in
theorem ggX2_readLine_X6_sees : GoodIn wsX2_readLine wsX6_sees := goodIn_r _ [12, 13, 14, 15, 162, 163, 164, 165, 166, 167, 168, 169, 170, 171] (by decide +kernel) (by decide +kernel)
set_option maxRecDepth 20000 in
theorem gX2_readLine_X6_sees : GoodIn wsX2_readLine (wsV RX2 51 RX6 yX6_sees wsX6_sees) := goodIn_app (goodIn_of _ (by decide +kernel)) ggX2_readLine_X6_sees
set_option maxRecDepth 20000 in
theorem ggX2_readLine_X2_readJuror : GoodIn wsX2_readLine wsX2_readJuror := goodIn_r _ [20, 21, 22, 1, 23, 24, 25, 26, 27, 28, 29, 30, 31, 32, 11, 33, 34, 35, 36, 13, 14, 37, 38, 39, 40, 41, 42, 43, 44, 45, 46, 47, 48, 49, 50, 51, 52, 53, 54, 55, 56, 57, 58, 59, 60, 61, 62, 63, 64, 65, 66, 67, 68, 69, 70, 71, 72, 73, 74, 75, 76, 77, 78, 79, 80, 81, 82, 83, 84, 85, 86, 87, 88, 89, 90, 91, 92, 93, 94, 95, 15, 96, 97, 98, 99, 100, 101, 102, 103, 104, 105, 106, 9, 10, 12, 107, 108, 109, 110, 111, 112, 113, 114, 115, 158, 159, 160, 161, 172, 173, 174, 175, 176, 177, 178, 179, 180, 181, 182, 183, 184, 185, 186, 187, 162, 163, 164, 165, 166, 167, 168, 169, 170, 171] (by decide +kernel) (by decide +kernel)
set_option maxRecDepth 20000 in
theorem gX2_readLine_X2_readJuror : GoodIn wsX2_readLine (wsV RX2 55 RX2 yX2_readJuror wsX2_readJuror) := goodIn_app (goodIn_of _ (by decide +kernel)) ggX2_readLine_X2_readJuror
set_option maxRecDepth 20000 in
theorem ggX2_readLine_X2_readFloor : GoodIn wsX2_readLine wsX2_readFloor := goodIn_r _ [119, 21, 120, 1, 23, 121, 122, 123, 30, 31, 32, 11, 33, 34, 35, 36, 13, 14, 37, 38, 39, 40, 41, 42, 43, 44, 45, 46, 47, 48, 49, 50, 51, 52, 53, 54, 55, 56, 57, 58, 59, 60, 61, 62, 63, 64, 65, 66, 67, 68, 69, 70, 71, 72, 73, 74, 75, 76, 77, 78, 79, 80, 81, 82, 83, 84, 85, 86, 87, 88, 89, 90, 91, 92, 93, 94, 95, 15, 96, 97, 98, 99, 100, 101, 107, 108, 109, 110, 111, 112, 113, 114, 115, 158, 159, 160, 161, 172, 173, 174, 175, 176, 177, 178, 179, 180, 181, 182, 183, 184, 185, 186, 187, 162, 163, 164, 165, 166, 167, 168, 169, 170, 171] (by decide +kernel) (by decide +kernel)
set_option maxRecDepth 20000 in
theorem gX2_readLine_X2_readFloor : GoodIn wsX2_readLine (wsV RX2 61 RX2 yX2_readFloor wsX2_readFloor) := goodIn_app (goodIn_of _ (by decide +kernel)) ggX2_readLine_X2_readFloor
set_option maxRecDepth 20000 in
theorem ggX2_readLine_X2_readCase : GoodIn wsX2_readLine wsX2_readCase := goodIn_r _ [127, 21, 128, 1, 23, 129, 130, 30, 31, 32, 11, 33, 34, 35, 36, 13, 14, 37, 38, 39, 40, 41, 42, 43, 44, 45, 46, 47, 48, 49, 50, 51, 52, 53, 54, 55, 56, 57, 58, 59, 60, 61, 62, 63, 64, 65, 66, 67, 68, 69, 70, 71, 72, 73, 74, 75, 76, 77, 78, 79, 80, 81, 82, 83, 84, 85, 86, 87, 88, 89, 90, 91, 92, 93, 94, 95, 15, 96, 97, 131, 132, 133, 134, 135, 107, 108, 109, 110, 111, 112, 113, 114, 115, 158, 159, 160, 161, 172, 173, 174, 175, 176, 177, 178, 179, 180, 181, 182, 183, 184, 185, 186, 187, 162, 163, 164, 165, 166, 167, 168, 169, 170, 171] (by decide +kernel) (by decide +kernel)
set_option maxRecDepth 20000 in
theorem gX2_readLine_X2_readCase : GoodIn wsX2_readLine (wsV RX2 67 RX2 yX2_readCase wsX2_readCase) := goodIn_app (goodIn_of _ (by decide +kernel)) ggX2_readLine_X2_readCase
set_option maxRecDepth 20000 in
theorem ggX2_readLine_X2_readTuned : GoodIn wsX2_readLine wsX2_readTuned := goodIn_r _ [139, 1, 21, 23, 140, 41, 42, 43, 11, 44, 45, 46, 47, 48, 49, 50, 51, 52, 14, 35, 13, 37, 38, 39, 40, 34, 53, 54, 55, 56, 57, 58, 59, 60, 61, 141, 68, 69, 65, 70, 71, 72, 73, 74, 75, 132, 133, 134, 135, 92, 93, 94, 95, 15, 96, 31, 32, 33, 36, 97, 142, 143, 144, 19, 145, 131, 77, 78, 79, 80, 81, 98, 99, 100, 101, 107, 108, 109, 110, 111, 112, 113, 114, 115, 158, 159, 160, 161, 162, 163, 164, 165, 166, 167, 168, 169, 170, 171, 172, 173, 174, 175, 176, 177, 178, 179, 180, 181, 182, 183, 184, 185, 186, 187] (by decide +kernel) (by decide +kernel)
set_option maxRecDepth 20000 in
theorem gX2_readLine_X2_readTuned : GoodIn wsX2_readLine (wsV RX2 73 RX2 yX2_readTuned wsX2_readTuned) := goodIn_app (goodIn_of _ (by decide +kernel)) ggX2_readLine_X2_readTuned
set_option maxRecDepth 20000 in
theorem ggX2_readLine_X2_readOne : GoodIn wsX2_readLine wsX2_readOne := goodIn_r _ [149, 150, 1, 21, 151, 30, 31, 32, 11, 33, 34, 35, 36, 13, 14, 37, 38, 39, 40, 41, 42, 43, 44, 45, 46, 47, 48, 49, 50, 51, 52, 53, 54, 55, 56, 57, 58, 59, 60, 61, 98, 99, 100, 101, 96, 97, 107, 108, 109, 110, 111, 112, 113, 114, 158, 159, 160, 161, 172, 173, 174, 175, 176, 177, 178, 179, 180, 181, 182, 183, 184, 185, 186, 187, 162, 163, 164, 165, 166, 167, 168, 169, 170, 171] (by decide +kernel) (by decide +kernel)
set_option maxRecDepth 20000 in
theorem gX2_readLine_X2_readOne : GoodIn wsX2_readLine (wsV RX2 79 RX2 yX2_readOne wsX2_readOne) := goodIn_app (goodIn_of _ (by decide +kernel)) ggX2_readLine_X2_readOne
set_option maxRecDepth 20000 in
theorem ggX2_readLine_X2_readDent : GoodIn wsX2_readLine wsX2_readDent := goodIn_r _ [155, 156, 1, 21, 157, 30, 31, 32, 11, 33, 34, 35, 36, 13, 14, 37, 38, 39, 40, 41, 42, 43, 44, 45, 46, 47, 48, 49, 50, 51, 52, 53, 54, 55, 56, 57, 58, 59, 60, 61, 98, 99, 100, 101, 96, 97, 107, 108, 109, 110, 111, 112, 113, 114, 158, 159, 160, 161, 172, 173, 174, 175, 176, 177, 178, 179, 180, 181, 182, 183, 184, 185, 186, 187, 162, 163, 164, 165, 166, 167, 168, 169, 170, 171] (by decide +kernel) (by decide +kernel)
set_option maxRecDepth 20000 in
theorem gX2_readLine_X2_readDent : GoodIn wsX2_readLine (wsV RX2 85 RX2 yX2_readDent wsX2_readDent) := goodIn_app (goodIn_of _ (by decide +kernel)) ggX2_readLine_X2_readDent
set_option maxRecDepth 20000 in
theorem ggX2_readLine_X6_fail : GoodIn wsX2_readLine wsX6_fail := goodIn_r _ [33, 34, 35, 36, 13, 14, 37, 38, 39, 11, 40, 162, 163, 164, 165, 166, 167, 168, 169, 170, 171] (by decide +kernel) (by decide +kernel)
set_option maxRecDepth 20000 in
theorem gX2_readLine_X6_fail : GoodIn wsX2_readLine (wsV RX2 88 RX6 yX6_fail wsX6_fail) := goodIn_app (goodIn_of _ (by decide +kernel)) ggX2_readLine_X6_fail
set_option maxRecDepth 20000 in
theorem ggX2_readJuror_X6_fail : GoodIn wsX2_readJuror wsX6_fail := goodIn_r _ [15, 16, 17, 18, 19, 20, 21, 22, 23, 14, 24, 124, 125, 126, 127, 128, 129, 130, 131, 132, 133] (by decide +kernel) (by decide +kernel)
set_option maxRecDepth 20000 in
theorem gX2_readJuror_X6_fail : GoodIn wsX2_readJuror (wsV RX2 88 RX6 yX6_fail wsX6_fail) := goodIn_app (goodIn_of _ (by decide +kernel)) ggX2_readJuror_X6_fail
set_option maxRecDepth 20000 in
theorem ggX2_readJuror_X6_advance : GoodIn wsX2_readJuror wsX6_advance := goodIn_r _ [28, 29, 30, 31, 32, 33, 34, 35, 36, 20, 17, 19, 21, 22, 23, 14, 24, 16, 37, 38, 39, 40, 41, 42, 43, 44, 45, 124, 125, 126, 127, 128, 129, 130, 131, 132, 133] (by decide +kernel) (by decide +kernel)
set_option maxRecDepth 20000 in
theorem gX2_readJuror_X6_advance : GoodIn wsX2_readJuror (wsV RX2 95 RX6 yX6_advance wsX6_advance) := goodIn_app (goodIn_of _ (by decide +kernel)) ggX2_readJuror_X6_advance
set_option maxRecDepth 20000 in
theorem ggX2_readJuror_X5_isTold : GoodIn wsX2_readJuror wsX5_isTold := goodIn_r _ [50, 51, 52, 53, 49, 54, 55, 56, 57, 58, 59, 60, 61, 62, 63, 64, 65, 66, 67, 68, 69, 70, 71, 108, 109, 110, 111, 112, 113, 114, 115, 116, 117, 118, 119, 120, 121, 122, 123] (by decide +kernel) (by decide +kernel)
set_option maxRecDepth 20000 in
theorem gX2_readJuror_X5_isTold : GoodIn wsX2_readJuror (wsV RX2 102 RX5 yX5_isTold wsX5_isTold) := goodIn_app (goodIn_of _ (by decide +kernel)) ggX2_readJuror_X5_isTold
set_option maxRecDepth 20000 in
theorem ggX2_readJuror_X6_takeNewName : GoodIn wsX2_readJuror wsX6_takeNewName := goodIn_r _ [75, 20, 76, 77, 78, 14, 79, 19, 80, 81, 12, 13, 15, 16, 17, 18, 21, 22, 23, 24, 82, 26, 27, 28, 29, 30, 31, 32, 33, 34, 35, 36, 37, 38, 39, 40, 41, 42, 43, 44, 45, 124, 125, 126, 127, 128, 129, 130, 131, 132, 133] (by decide +kernel) (by decide +kernel)
set_option maxRecDepth 20000 in
theorem gX2_readJuror_X6_takeNewName : GoodIn wsX2_readJuror (wsV RX2 106 RX6 yX6_takeNewName wsX6_takeNewName) := goodIn_app (goodIn_of _ (by decide +kernel)) ggX2_readJuror_X6_takeNewName
set_option maxRecDepth 20000 in
theorem ggX2_readJuror_X6_takeNumber : GoodIn wsX2_readJuror wsX6_takeNumber := goodIn_r _ [86, 19, 41, 81, 12, 13, 14, 15, 16, 17, 18, 20, 21, 22, 23, 24, 82, 26, 27, 28, 29, 30, 31, 32, 33, 34, 35, 36, 37, 38, 39, 40, 42, 43, 44, 45, 124, 125, 126, 127, 128, 129, 130, 131, 132, 133] (by decide +kernel) (by decide +kernel)
set_option maxRecDepth 20000 in
theorem gX2_readJuror_X6_takeNumber : GoodIn wsX2_readJuror (wsV RX2 110 RX6 yX6_takeNumber wsX6_takeNumber) := goodIn_app (goodIn_of _ (by decide +kernel)) ggX2_readJuror_X6_takeNumber
set_option maxRecDepth 20000 in
theorem ggX2_readJuror_X6_takeIf : GoodIn wsX2_readJuror wsX6_takeIf := goodIn_r _ [90, 91, 92, 93, 14, 94, 19, 20, 80, 82, 26, 27, 28, 29, 30, 31, 32, 33, 34, 35, 36, 17, 21, 22, 23, 24, 16, 37, 38, 39, 40, 41, 42, 43, 44, 45, 124, 125, 126, 127, 128, 129, 130, 131, 132, 133] (by decide +kernel) (by decide +kernel)
set_option maxRecDepth 20000 in
theorem gX2_readJuror_X6_takeIf : GoodIn wsX2_readJuror (wsV RX2 117 RX6 yX6_takeIf wsX6_takeIf) := goodIn_app (goodIn_of _ (by decide +kernel)) ggX2_readJuror_X6_takeIf
set_option maxRecDepth 20000 in
theorem ggX2_readJuror_X6_takeSign : GoodIn wsX2_readJuror wsX6_takeSign := goodIn_r _ [98, 99, 100, 101, 14, 102, 19, 82, 26, 27, 28, 29, 30, 31, 32, 33, 34, 35, 36, 20, 17, 21, 22, 23, 24, 16, 37, 38, 39, 40, 41, 42, 43, 44, 45, 81, 12, 13, 15, 18, 124, 125, 126, 127, 128, 129, 130, 131, 132, 133] (by decide +kernel) (by decide +kernel)
set_option maxRecDepth 20000 in
theorem gX2_readJuror_X6_takeSign : GoodIn wsX2_readJuror (wsV RX2 120 RX6 yX6_takeSign wsX6_takeSign) := goodIn_app (goodIn_of _ (by decide +kernel)) ggX2_readJuror_X6_takeSign
set_option maxRecDepth 20000 in
theorem ggX2_readJuror_X6_isBroken : GoodIn wsX2_readJuror wsX6_isBroken := goodIn_r _ [24, 16, 124, 125, 126, 127, 128, 129, 130, 131, 132, 133] (by decide +kernel) (by decide +kernel)
set_option maxRecDepth 20000 in
theorem gX2_readJuror_X6_isBroken : GoodIn wsX2_readJuror (wsV RX2 123 RX6 yX6_isBroken wsX6_isBroken) := goodIn_app (goodIn_of _ (by decide +kernel)) ggX2_readJuror_X6_isBroken
set_option maxRecDepth 20000 in
theorem ggX2_readFloor_X6_fail : GoodIn wsX2_readFloor wsX6_fail := goodIn_r _ [12, 13, 14, 15, 16, 17, 18, 19, 20, 11, 21, 113, 114, 115, 116, 117, 118, 119, 120, 121, 122] (by decide +kernel) (by decide +kernel)
set_option maxRecDepth 20000 in
theorem gX2_readFloor_X6_fail : GoodIn wsX2_readFloor (wsV RX2 88 RX6 yX6_fail wsX6_fail) := goodIn_app (goodIn_of _ (by decide +kernel)) ggX2_readFloor_X6_fail
set_option maxRecDepth 20000 in
theorem ggX2_readFloor_X6_advance : GoodIn wsX2_readFloor wsX6_advance := goodIn_r _ [25, 26, 27, 28, 29, 30, 31, 32, 33, 17, 14, 16, 18, 19, 20, 11, 21, 13, 34, 35, 36, 37, 38, 39, 40, 41, 42, 113, 114, 115, 116, 117, 118, 119, 120, 121, 122] (by decide +kernel) (by decide +kernel)
set_option maxRecDepth 20000 in
theorem gX2_readFloor_X6_advance : GoodIn wsX2_readFloor (wsV RX2 95 RX6 yX6_advance wsX6_advance) := goodIn_app (goodIn_of _ (by decide +kernel)) ggX2_readFloor_X6_advance
set_option maxRecDepth 20000 in
theorem ggX2_readFloor_X5_isTold : GoodIn wsX2_readFloor wsX5_isTold := goodIn_r _ [47, 48, 49, 50, 46, 51, 52, 53, 54, 55, 56, 57, 58, 59, 60, 61, 62, 63, 64, 65, 66, 67, 68, 97, 98, 99, 100, 101, 102, 103, 104, 105, 106, 107, 108, 109, 110, 111, 112] (by decide +kernel) (by decide +kernel)
set_option maxRecDepth 20000 in
theorem gX2_readFloor_X5_isTold : GoodIn wsX2_readFloor (wsV RX2 102 RX5 yX5_isTold wsX5_isTold) := goodIn_app (goodIn_of _ (by decide +kernel)) ggX2_readFloor_X5_isTold
set_option maxRecDepth 20000 in
theorem ggX2_readFloor_X6_takeNewName : GoodIn wsX2_readFloor wsX6_takeNewName := goodIn_r _ [72, 17, 73, 74, 75, 11, 76, 16, 77, 78, 9, 10, 12, 13, 14, 15, 18, 19, 20, 21, 79, 23, 24, 25, 26, 27, 28, 29, 30, 31, 32, 33, 34, 35, 36, 37, 38, 39, 40, 41, 42, 113, 114, 115, 116, 117, 118, 119, 120, 121, 122] (by decide +kernel) (by decide +kernel)
set_option maxRecDepth 20000 in
theorem gX2_readFloor_X6_takeNewName : GoodIn wsX2_readFloor (wsV RX2 106 RX6 yX6_takeNewName wsX6_takeNewName) := goodIn_app (goodIn_of _ (by decide +kernel)) ggX2_readFloor_X6_takeNewName
set_option maxRecDepth 20000 in
theorem ggX2_readFloor_X6_takeNumber : GoodIn wsX2_readFloor wsX6_takeNumber := goodIn_r _ [83, 16, 38, 78, 9, 10, 11, 12, 13, 14, 15, 17, 18, 19, 20, 21, 79, 23, 24, 25, 26, 27, 28, 29, 30, 31, 32, 33, 34, 35, 36, 37, 39, 40, 41, 42, 113, 114, 115, 116, 117, 118, 119, 120, 121, 122] (by decide +kernel) (by decide +kernel)
set_option maxRecDepth 20000 in
theorem gX2_readFloor_X6_takeNumber : GoodIn wsX2_readFloor (wsV RX2 110 RX6 yX6_takeNumber wsX6_takeNumber) := goodIn_app (goodIn_of _ (by decide +kernel)) ggX2_readFloor_X6_takeNumber
set_option maxRecDepth 20000 in
theorem ggX2_readFloor_X6_takeSign : GoodIn wsX2_readFloor wsX6_takeSign := goodIn_r _ [87, 88, 89, 90, 11, 91, 16, 79, 23, 24, 25, 26, 27, 28, 29, 30, 31, 32, 33, 17, 14, 18, 19, 20, 21, 13, 34, 35, 36, 37, 38, 39, 40, 41, 42, 78, 9, 10, 12, 15, 113, 114, 115, 116, 117, 118, 119, 120, 121, 122] (by decide +kernel) (by decide +kernel)
set_option maxRecDepth 20000 in
theorem gX2_readFloor_X6_takeSign : GoodIn wsX2_readFloor (wsV RX2 120 RX6 yX6_takeSign wsX6_takeSign) := goodIn_app (goodIn_of _ (by decide +kernel)) ggX2_readFloor_X6_takeSign
set_option maxRecDepth 20000 in
theorem ggX2_readFloor_X6_isBroken : GoodIn wsX2_readFloor wsX6_isBroken := goodIn_r _ [21, 13, 113, 114, 115, 116, 117, 118, 119, 120, 121, 122] (by decide +kernel) (by decide +kernel)
set_option maxRecDepth 20000 in
theorem gX2_readFloor_X6_isBroken : GoodIn wsX2_readFloor (wsV RX2 123 RX6 yX6_isBroken wsX6_isBroken) := goodIn_app (goodIn_of _ (by decide +kernel)) ggX2_readFloor_X6_isBroken
set_option maxRecDepth 20000 in
theorem ggX2_readCase_X6_fail : GoodIn wsX2_readCase wsX6_fail := goodIn_r _ [11, 12, 13, 14, 15, 16, 17, 18, 19, 10, 20, 113, 114, 115, 116, 117, 118, 119, 120, 121, 122] (by decide +kernel) (by decide +kernel)
set_option maxRecDepth 20000 in
theorem gX2_readCase_X6_fail : GoodIn wsX2_readCase (wsV RX2 88 RX6 yX6_fail wsX6_fail) := goodIn_app (goodIn_of _ (by decide +kernel)) ggX2_readCase_X6_fail
set_option maxRecDepth 20000 in
theorem ggX2_readCase_X6_advance : GoodIn wsX2_readCase wsX6_advance := goodIn_r _ [24, 25, 26, 27, 28, 29, 30, 31, 32, 16, 13, 15, 17, 18, 19, 10, 20, 12, 33, 34, 35, 36, 37, 38, 39, 40, 41, 113, 114, 115, 116, 117, 118, 119, 120, 121, 122] (by decide +kernel) (by decide +kernel)
set_option maxRecDepth 20000 in
theorem gX2_readCase_X6_advance : GoodIn wsX2_readCase (wsV RX2 95 RX6 yX6_advance wsX6_advance) := goodIn_app (goodIn_of _ (by decide +kernel)) ggX2_readCase_X6_advance
set_option maxRecDepth 20000 in
theorem ggX2_readCase_X5_isTold : GoodIn wsX2_readCase wsX5_isTold := goodIn_r _ [46, 47, 48, 49, 45, 50, 51, 52, 53, 54, 55, 56, 57, 58, 59, 60, 61, 62, 63, 64, 65, 66, 67, 97, 98, 99, 100, 101, 102, 103, 104, 105, 106, 107, 108, 109, 110, 111, 112] (by decide +kernel) (by decide +kernel)
set_option maxRecDepth 20000 in
theorem gX2_readCase_X5_isTold : GoodIn wsX2_readCase (wsV RX2 102 RX5 yX5_isTold wsX5_isTold) := goodIn_app (goodIn_of _ (by decide +kernel)) ggX2_readCase_X5_isTold
set_option maxRecDepth 20000 in
theorem ggX2_readCase_X6_takeNewName : GoodIn wsX2_readCase wsX6_takeNewName := goodIn_r _ [71, 16, 72, 73, 74, 10, 75, 15, 76, 77, 8, 9, 11, 12, 13, 14, 17, 18, 19, 20, 78, 22, 23, 24, 25, 26, 27, 28, 29, 30, 31, 32, 33, 34, 35, 36, 37, 38, 39, 40, 41, 113, 114, 115, 116, 117, 118, 119, 120, 121, 122] (by decide +kernel) (by decide +kernel)
set_option maxRecDepth 20000 in
theorem gX2_readCase_X6_takeNewName : GoodIn wsX2_readCase (wsV RX2 106 RX6 yX6_takeNewName wsX6_takeNewName) := goodIn_app (goodIn_of _ (by decide +kernel)) ggX2_readCase_X6_takeNewName
set_option maxRecDepth 20000 in
theorem ggX2_readCase_X5_floorNamed : GoodIn wsX2_readCase wsX5_floorNamed := goodIn_r _ [59, 60, 61, 53, 54, 45, 55, 97, 98, 99, 100, 101, 102, 103, 104, 105, 106, 107, 108, 109, 110, 111, 112] (by decide +kernel) (by decide +kernel)
set_option maxRecDepth 20000 in
theorem gX2_readCase_X5_floorNamed : GoodIn wsX2_readCase (wsV RX2 158 RX5 yX5_floorNamed wsX5_floorNamed) := goodIn_app (goodIn_of _ (by decide +kernel)) ggX2_readCase_X5_floorNamed
set_option maxRecDepth 20000 in
theorem ggX2_readCase_X6_takeFound : GoodIn wsX2_readCase wsX6_takeFound := goodIn_r _ [83, 72, 73, 74, 10, 75, 15, 16, 76, 77, 8, 9, 11, 12, 13, 14, 17, 18, 19, 20, 78, 22, 23, 24, 25, 26, 27, 28, 29, 30, 31, 32, 33, 34, 35, 36, 37, 38, 39, 40, 41, 113, 114, 115, 116, 117, 118, 119, 120, 121, 122] (by decide +kernel) (by decide +kernel)
set_option maxRecDepth 20000 in
theorem gX2_readCase_X6_takeFound : GoodIn wsX2_readCase (wsV RX2 162 RX6 yX6_takeFound wsX6_takeFound) := goodIn_app (goodIn_of _ (by decide +kernel)) ggX2_readCase_X6_takeFound
set_option maxRecDepth 20000 in
theorem ggX2_readCase_X6_takeSign : GoodIn wsX2_readCase wsX6_takeSign := goodIn_r _ [87, 88, 89, 90, 10, 91, 15, 78, 22, 23, 24, 25, 26, 27, 28, 29, 30, 31, 32, 16, 13, 17, 18, 19, 20, 12, 33, 34, 35, 36, 37, 38, 39, 40, 41, 77, 8, 9, 11, 14, 113, 114, 115, 116, 117, 118, 119, 120, 121, 122] (by decide +kernel) (by decide +kernel)
set_option maxRecDepth 20000 in
theorem gX2_readCase_X6_takeSign : GoodIn wsX2_readCase (wsV RX2 120 RX6 yX6_takeSign wsX6_takeSign) := goodIn_app (goodIn_of _ (by decide +kernel)) ggX2_readCase_X6_takeSign
set_option maxRecDepth 20000 in
theorem ggX2_readCase_X6_isBroken : GoodIn wsX2_readCase wsX6_isBroken := goodIn_r _ [20, 12, 113, 114, 115, 116, 117, 118, 119, 120, 121, 122] (by decide +kernel) (by decide +kernel)
set_option maxRecDepth 20000 in
theorem gX2_readCase_X6_isBroken : GoodIn wsX2_readCase (wsV RX2 123 RX6 yX6_isBroken wsX6_isBroken) := goodIn_app (goodIn_of _ (by decide +kernel)) ggX2_readCase_X6_isBroken
set_option maxRecDepth 20000 in
theorem ggX2_readTuned_X6_advance : GoodIn wsX2_readTuned wsX6_advance := goodIn_r _ [9, 10, 11, 12, 13, 14, 15, 16, 17, 18, 19, 20, 21, 22, 23, 8, 24, 25, 26, 27, 28, 29, 30, 31, 32, 33, 34, 88, 89, 90, 91, 92, 93, 94, 95, 96, 97] (by decide +kernel) (by decide +kernel)
set_option maxRecDepth 20000 in
theorem gX2_readTuned_X6_advance : GoodIn wsX2_readTuned (wsV RX2 95 RX6 yX6_advance wsX6_advance) := goodIn_app (goodIn_of _ (by decide +kernel)) ggX2_readTuned_X6_advance
set_option maxRecDepth 20000 in
theorem ggX2_readTuned_X5_jurorNamed : GoodIn wsX2_readTuned wsX5_jurorNamed := goodIn_r _ [39, 40, 41, 42, 43, 38, 44, 98, 99, 100, 101, 102, 103, 104, 105, 106, 107, 108, 109, 110, 111, 112, 113] (by decide +kernel) (by decide +kernel)
set_option maxRecDepth 20000 in
theorem gX2_readTuned_X5_jurorNamed : GoodIn wsX2_readTuned (wsV RX2 172 RX5 yX5_jurorNamed wsX5_jurorNamed) := goodIn_app (goodIn_of _ (by decide +kernel)) ggX2_readTuned_X5_jurorNamed
set_option maxRecDepth 20000 in
theorem ggX2_readTuned_X6_takeFound : GoodIn wsX2_readTuned wsX6_takeFound := goodIn_r _ [48, 49, 50, 51, 8, 52, 20, 18, 53, 54, 55, 56, 57, 25, 19, 58, 21, 22, 23, 24, 59, 6, 7, 9, 10, 11, 12, 13, 14, 15, 16, 17, 26, 27, 28, 29, 30, 31, 32, 33, 34, 88, 89, 90, 91, 92, 93, 94, 95, 96, 97] (by decide +kernel) (by decide +kernel)
set_option maxRecDepth 20000 in
theorem gX2_readTuned_X6_takeFound : GoodIn wsX2_readTuned (wsV RX2 162 RX6 yX6_takeFound wsX6_takeFound) := goodIn_app (goodIn_of _ (by decide +kernel)) ggX2_readTuned_X6_takeFound
set_option maxRecDepth 20000 in
theorem ggX2_readTuned_X2_floorNotTunedFor : GoodIn wsX2_readTuned wsX2_floorNotTunedFor := goodIn_r _ [64, 2, 1, 3, 4, 65, 66, 67, 38, 68, 69, 70, 42, 43, 44, 84, 85, 86, 87, 88, 89, 90, 91, 92, 93, 94, 95, 96, 97, 98, 99, 100, 101, 102, 103, 104, 105, 106, 107, 108, 109, 110, 111, 112, 113] (by decide +kernel) (by decide +kernel)
set_option maxRecDepth 20000 in
theorem gX2_readTuned_X2_floorNotTunedFor : GoodIn wsX2_readTuned (wsV RX2 175 RX2 yX2_floorNotTunedFor wsX2_floorNotTunedFor) := goodIn_app (goodIn_of _ (by decide +kernel)) ggX2_readTuned_X2_floorNotTunedFor
set_option maxRecDepth 20000 in
theorem ggX2_readTuned_X6_takeNumber : GoodIn wsX2_readTuned wsX6_takeNumber := goodIn_r _ [74, 20, 30, 54, 55, 56, 8, 57, 25, 19, 58, 18, 21, 22, 23, 24, 59, 6, 7, 9, 10, 11, 12, 13, 14, 15, 16, 17, 26, 27, 28, 29, 31, 32, 33, 34, 88, 89, 90, 91, 92, 93, 94, 95, 96, 97] (by decide +kernel) (by decide +kernel)
set_option maxRecDepth 20000 in
theorem gX2_readTuned_X6_takeNumber : GoodIn wsX2_readTuned (wsV RX2 110 RX6 yX6_takeNumber wsX6_takeNumber) := goodIn_app (goodIn_of _ (by decide +kernel)) ggX2_readTuned_X6_takeNumber
set_option maxRecDepth 20000 in
theorem ggX2_readTuned_X6_takeSign : GoodIn wsX2_readTuned wsX6_takeSign := goodIn_r _ [78, 79, 80, 81, 8, 82, 20, 59, 6, 7, 9, 10, 11, 12, 13, 14, 15, 16, 17, 18, 19, 21, 22, 23, 24, 25, 26, 27, 28, 29, 30, 31, 32, 33, 34, 54, 55, 56, 57, 58, 88, 89, 90, 91, 92, 93, 94, 95, 96, 97] (by decide +kernel) (by decide +kernel)
set_option maxRecDepth 20000 in
theorem gX2_readTuned_X6_takeSign : GoodIn wsX2_readTuned (wsV RX2 120 RX6 yX6_takeSign wsX6_takeSign) := goodIn_app (goodIn_of _ (by decide +kernel)) ggX2_readTuned_X6_takeSign
set_option maxRecDepth 20000 in
theorem ggX2_readTuned_X6_isBroken : GoodIn wsX2_readTuned wsX6_isBroken := goodIn_r _ [24, 25, 88, 89, 90, 91, 92, 93, 94, 95, 96, 97] (by decide +kernel) (by decide +kernel)
set_option maxRecDepth 20000 in
theorem gX2_readTuned_X6_isBroken : GoodIn wsX2_readTuned (wsV RX2 123 RX6 yX6_isBroken wsX6_isBroken) := goodIn_app (goodIn_of _ (by decide +kernel)) ggX2_readTuned_X6_isBroken
set_option maxRecDepth 20000 in
theorem ggX2_floorNotTunedFor_X5_floorNamed : GoodIn wsX2_floorNotTunedFor wsX5_floorNamed := goodIn_r _ [9, 10, 11, 12, 13, 8, 14, 29, 30, 31, 32, 33, 34, 35, 36, 37, 38, 39, 40, 41, 42, 43, 44] (by decide +kernel) (by decide +kernel)
set_option maxRecDepth 20000 in
theorem gX2_floorNotTunedFor_X5_floorNamed : GoodIn wsX2_floorNotTunedFor (wsV RX2 158 RX5 yX5_floorNamed wsX5_floorNamed) := goodIn_app (goodIn_of _ (by decide +kernel)) ggX2_floorNotTunedFor_X5_floorNamed
set_option maxRecDepth 20000 in
theorem ggX2_readOne_X6_fail : GoodIn wsX2_readOne wsX6_fail := goodIn_r _ [9, 10, 11, 12, 13, 14, 15, 16, 17, 8, 18, 74, 75, 76, 77, 78, 79, 80, 81, 82, 83] (by decide +kernel) (by decide +kernel)
set_option maxRecDepth 20000 in
theorem gX2_readOne_X6_fail : GoodIn wsX2_readOne (wsV RX2 88 RX6 yX6_fail wsX6_fail) := goodIn_app (goodIn_of _ (by decide +kernel)) ggX2_readOne_X6_fail
set_option maxRecDepth 20000 in
theorem ggX2_readOne_X6_advance : GoodIn wsX2_readOne wsX6_advance := goodIn_r _ [22, 23, 24, 25, 26, 27, 28, 29, 30, 14, 11, 13, 15, 16, 17, 8, 18, 10, 31, 32, 33, 34, 35, 36, 37, 38, 39, 74, 75, 76, 77, 78, 79, 80, 81, 82, 83] (by decide +kernel) (by decide +kernel)
set_option maxRecDepth 20000 in
theorem gX2_readOne_X6_advance : GoodIn wsX2_readOne (wsV RX2 95 RX6 yX6_advance wsX6_advance) := goodIn_app (goodIn_of _ (by decide +kernel)) ggX2_readOne_X6_advance
set_option maxRecDepth 20000 in
theorem ggX2_readOne_X6_takeNumber : GoodIn wsX2_readOne wsX6_takeNumber := goodIn_r _ [43, 13, 35, 44, 6, 7, 8, 9, 10, 11, 12, 14, 15, 16, 17, 18, 45, 20, 21, 22, 23, 24, 25, 26, 27, 28, 29, 30, 31, 32, 33, 34, 36, 37, 38, 39, 74, 75, 76, 77, 78, 79, 80, 81, 82, 83] (by decide +kernel) (by decide +kernel)
set_option maxRecDepth 20000 in
theorem gX2_readOne_X6_takeNumber : GoodIn wsX2_readOne (wsV RX2 110 RX6 yX6_takeNumber wsX6_takeNumber) := goodIn_app (goodIn_of _ (by decide +kernel)) ggX2_readOne_X6_takeNumber
set_option maxRecDepth 20000 in
theorem ggX2_readOne_X6_takeSign : GoodIn wsX2_readOne wsX6_takeSign := goodIn_r _ [49, 50, 51, 52, 8, 53, 13, 45, 20, 21, 22, 23, 24, 25, 26, 27, 28, 29, 30, 14, 11, 15, 16, 17, 18, 10, 31, 32, 33, 34, 35, 36, 37, 38, 39, 44, 6, 7, 9, 12, 74, 75, 76, 77, 78, 79, 80, 81, 82, 83] (by decide +kernel) (by decide +kernel)
set_option maxRecDepth 20000 in
theorem gX2_readOne_X6_takeSign : GoodIn wsX2_readOne (wsV RX2 120 RX6 yX6_takeSign wsX6_takeSign) := goodIn_app (goodIn_of _ (by decide +kernel)) ggX2_readOne_X6_takeSign
set_option maxRecDepth 20000 in
theorem ggX2_readDent_X6_fail : GoodIn wsX2_readDent wsX6_fail := goodIn_r _ [9, 10, 11, 12, 13, 14, 15, 16, 17, 8, 18, 74, 75, 76, 77, 78, 79, 80, 81, 82, 83] (by decide +kernel) (by decide +kernel)
set_option maxRecDepth 20000 in
theorem gX2_readDent_X6_fail : GoodIn wsX2_readDent (wsV RX2 88 RX6 yX6_fail wsX6_fail) := goodIn_app (goodIn_of _ (by decide +kernel)) ggX2_readDent_X6_fail
set_option maxRecDepth 20000 in
theorem ggX2_readDent_X6_advance : GoodIn wsX2_readDent wsX6_advance := goodIn_r _ [22, 23, 24, 25, 26, 27, 28, 29, 30, 14, 11, 13, 15, 16, 17, 8, 18, 10, 31, 32, 33, 34, 35, 36, 37, 38, 39, 74, 75, 76, 77, 78, 79, 80, 81, 82, 83] (by decide +kernel) (by decide +kernel)
set_option maxRecDepth 20000 in
theorem gX2_readDent_X6_advance : GoodIn wsX2_readDent (wsV RX2 95 RX6 yX6_advance wsX6_advance) := goodIn_app (goodIn_of _ (by decide +kernel)) ggX2_readDent_X6_advance
set_option maxRecDepth 20000 in
theorem ggX2_readDent_X6_takeNumber : GoodIn wsX2_readDent wsX6_takeNumber := goodIn_r _ [43, 13, 35, 44, 6, 7, 8, 9, 10, 11, 12, 14, 15, 16, 17, 18, 45, 20, 21, 22, 23, 24, 25, 26, 27, 28, 29, 30, 31, 32, 33, 34, 36, 37, 38, 39, 74, 75, 76, 77, 78, 79, 80, 81, 82, 83] (by decide +kernel) (by decide +kernel)
set_option maxRecDepth 20000 in
theorem gX2_readDent_X6_takeNumber : GoodIn wsX2_readDent (wsV RX2 110 RX6 yX6_takeNumber wsX6_takeNumber) := goodIn_app (goodIn_of _ (by decide +kernel)) ggX2_readDent_X6_takeNumber
set_option maxRecDepth 20000 in
theorem ggX2_readDent_X6_takeSign : GoodIn wsX2_readDent wsX6_takeSign := goodIn_r _ [49, 50, 51, 52, 8, 53, 13, 45, 20, 21, 22, 23, 24, 25, 26, 27, 28, 29, 30, 14, 11, 15, 16, 17, 18, 10, 31, 32, 33, 34, 35, 36, 37, 38, 39, 44, 6, 7, 9, 12, 74, 75, 76, 77, 78, 79, 80, 81, 82, 83] (by decide +kernel) (by decide +kernel)
set_option maxRecDepth 20000 in
theorem gX2_readDent_X6_takeSign : GoodIn wsX2_readDent (wsV RX2 120 RX6 yX6_takeSign wsX6_takeSign) := goodIn_app (goodIn_of _ (by decide +kernel)) ggX2_readDent_X6_takeSign
set_option maxRecDepth 20000 in
theorem ggX3_init_X9_init : GoodIn wsX3_init wsX9_init := goodIn_r _ [9, 10, 2, 3, 11, 12, 13, 14, 15, 16, 17, 21, 22, 23, 24, 25, 26, 27, 28, 29, 30, 31] (by decide +kernel) (by decide +kernel)
set_option maxRecDepth 20000 in
theorem gX3_init_X9_init_n17 : GoodIn wsX3_init (wsX9_init) := ggX3_init_X9_init
set_option maxRecDepth 20000 in
theorem ggX3_keep_X9_copyFrom : GoodIn wsX3_keep wsX9_copyFrom := goodIn_r _ [12, 13, 14, 15, 16, 17, 18, 19, 20, 21, 22, 23, 24, 25, 26, 27, 31, 32, 33, 34, 35, 36, 37, 38, 39, 40, 41] (by decide +kernel) (by decide +kernel)
set_option maxRecDepth 20000 in
theorem gX3_keep_X9_copyFrom : GoodIn wsX3_keep (wsV RX3 22 RX9 yX9_copyFrom wsX9_copyFrom) := goodIn_app (goodIn_of _ (by decide +kernel)) ggX3_keep_X9_copyFrom
set_option maxRecDepth 20000 in
theorem ggX3_takeBack_X9_copyFrom : GoodIn wsX3_takeBack wsX9_copyFrom := goodIn_r _ [8, 9, 10, 11, 12, 13, 14, 15, 16, 17, 18, 19, 20, 21, 22, 23, 27, 28, 29, 30, 31, 32, 33, 34, 35, 36, 37] (by decide +kernel) (by decide +kernel)
set_option maxRecDepth 20000 in
theorem gX3_takeBack_X9_copyFrom : GoodIn wsX3_takeBack (wsV RX3 22 RX9 yX9_copyFrom wsX9_copyFrom) := goodIn_app (goodIn_of _ (by decide +kernel)) ggX3_takeBack_X9_copyFrom
set_option maxRecDepth 20000 in
theorem ggX4_init_X5_init : GoodIn wsX4_init wsX5_init := goodIn_r _ [17, 18, 2, 3, 19, 20, 21, 22, 23, 24, 25, 26, 27, 28, 29, 30, 48, 49, 50, 51, 52, 53, 54, 55, 56, 57, 58, 59, 60, 61, 62, 63] (by decide +kernel) (by decide +kernel)
set_option maxRecDepth 20000 in
theorem gX4_init_X5_init_n9 : GoodIn wsX4_init (wsX5_init) := ggX4_init_X5_init
set_option maxRecDepth 20000 in
theorem ggX4_init_X9_init : GoodIn wsX4_init wsX9_init := goodIn_r _ [32, 33, 2, 3, 23, 34, 35, 36, 37, 38, 39, 68, 69, 70, 71, 72, 73, 74, 75, 76, 77, 78] (by decide +kernel) (by decide +kernel)
set_option maxRecDepth 20000 in
theorem gX4_init_X9_init_n18 : GoodIn wsX4_init (wsX9_init) := ggX4_init_X9_init
set_option maxRecDepth 20000 in
theorem ggX4_init_X7_init : GoodIn wsX4_init wsX7_init := goodIn_r _ [41, 42, 2, 3, 43, 44, 23, 45, 46, 47, 79, 80, 81, 82, 83, 84] (by decide +kernel) (by decide +kernel)
set_option maxRecDepth 20000 in
theorem gX4_init_X7_init_n25 : GoodIn wsX4_init (wsX7_init) := ggX4_init_X7_init
set_option maxRecDepth 20000 in
theorem ggX5_jurorNamed_X5_placeOf : GoodIn wsX5_jurorNamed wsX5_placeOf := goodIn_r _ [6] (by decide +kernel) (by decide +kernel)
set_option maxRecDepth 20000 in
theorem gX5_jurorNamed_X5_placeOf : GoodIn wsX5_jurorNamed (va_wsS RX5 68 yX5_placeOf wsX5_placeOf) := goodIn_app (goodIn_of _ (by decide +kernel)) ggX5_jurorNamed_X5_placeOf
set_option maxRecDepth 20000 in
theorem ggX5_floorNamed_X5_placeOf : GoodIn wsX5_floorNamed wsX5_placeOf := goodIn_r _ [6] (by decide +kernel) (by decide +kernel)
set_option maxRecDepth 20000 in
theorem gX5_floorNamed_X5_placeOf : GoodIn wsX5_floorNamed (va_wsS RX5 68 yX5_placeOf wsX5_placeOf) := goodIn_app (goodIn_of _ (by decide +kernel)) ggX5_floorNamed_X5_placeOf
set_option maxRecDepth 20000 in
theorem ggX5_caseNamed_X5_placeOf : GoodIn wsX5_caseNamed wsX5_placeOf := goodIn_r _ [6] (by decide +kernel) (by decide +kernel)
set_option maxRecDepth 20000 in
theorem gX5_caseNamed_X5_placeOf : GoodIn wsX5_caseNamed (va_wsS RX5 68 yX5_placeOf wsX5_placeOf) := goodIn_app (goodIn_of _ (by decide +kernel)) ggX5_caseNamed_X5_placeOf
set_option maxRecDepth 20000 in
theorem ggX5_isTold_X5_jurorNamed : GoodIn wsX5_isTold wsX5_jurorNamed := goodIn_r _ [5, 6, 7, 8, 9, 4, 10, 23, 24, 25, 26, 27, 28, 29, 30, 31, 32, 33, 34, 35, 36, 37, 38] (by decide +kernel) (by decide +kernel)
set_option maxRecDepth 20000 in
theorem gX5_isTold_X5_jurorNamed : GoodIn wsX5_isTold (wsV RX5 72 RX5 yX5_jurorNamed wsX5_jurorNamed) := goodIn_app (goodIn_of _ (by decide +kernel)) ggX5_isTold_X5_jurorNamed
set_option maxRecDepth 20000 in
theorem ggX5_isTold_X5_floorNamed : GoodIn wsX5_isTold wsX5_floorNamed := goodIn_r _ [14, 15, 16, 8, 9, 4, 10, 23, 24, 25, 26, 27, 28, 29, 30, 31, 32, 33, 34, 35, 36, 37, 38] (by decide +kernel) (by decide +kernel)
set_option maxRecDepth 20000 in
theorem gX5_isTold_X5_floorNamed : GoodIn wsX5_isTold (wsV RX5 76 RX5 yX5_floorNamed wsX5_floorNamed) := goodIn_app (goodIn_of _ (by decide +kernel)) ggX5_isTold_X5_floorNamed
set_option maxRecDepth 20000 in
theorem ggX5_isTold_X5_caseNamed : GoodIn wsX5_isTold wsX5_caseNamed := goodIn_r _ [20, 21, 22, 8, 9, 4, 10, 23, 24, 25, 26, 27, 28, 29, 30, 31, 32, 33, 34, 35, 36, 37, 38] (by decide +kernel) (by decide +kernel)
set_option maxRecDepth 20000 in
theorem gX5_isTold_X5_caseNamed : GoodIn wsX5_isTold (wsV RX5 79 RX5 yX5_caseNamed wsX5_caseNamed) := goodIn_app (goodIn_of _ (by decide +kernel)) ggX5_isTold_X5_caseNamed
set_option maxRecDepth 20000 in
theorem ggX6_begin_X6_advance : GoodIn wsX6_begin wsX6_advance := goodIn_r _ [9, 10, 1, 11, 12, 13, 14, 2, 15, 16, 17, 18, 19, 20, 21, 8, 22, 3, 23, 24, 25, 26, 27, 28, 29, 30, 31, 32, 33, 34, 35, 36, 37, 38, 39, 40, 41] (by decide +kernel) (by decide +kernel)
set_option maxRecDepth 20000 in
theorem gX6_begin_X6_advance : GoodIn wsX6_begin (wsV RX6 31 RX6 yX6_advance wsX6_advance) := goodIn_app (goodIn_of _ (by decide +kernel)) ggX6_begin_X6_advance
set_option maxRecDepth 20000 in
theorem ggX6_advance_X6_isBroken : GoodIn wsX6_advance wsX6_isBroken := goodIn_r _ [16, 17, 27, 28, 29, 30, 31, 32, 33, 34, 35, 36] (by decide +kernel) (by decide +kernel)
set_option maxRecDepth 20000 in
theorem gX6_advance_X6_isBroken : GoodIn wsX6_advance (wsV RX6 34 RX6 yX6_isBroken wsX6_isBroken) := goodIn_app (goodIn_of _ (by decide +kernel)) ggX6_advance_X6_isBroken
set_option maxRecDepth 20000 in
theorem ggX6_advance_X6_readRun : GoodIn wsX6_advance wsX6_readRun := goodIn_r _ [21, 22, 7, 1, 8, 9, 23, 11, 27, 28, 29, 30, 31, 32, 33, 34, 35, 36] (by decide +kernel) (by decide +kernel)
set_option maxRecDepth 20000 in
theorem gX6_advance_X6_readRun : GoodIn wsX6_advance (wsV RX6 54 RX6 yX6_readRun wsX6_readRun) := goodIn_app (goodIn_of _ (by decide +kernel)) ggX6_advance_X6_readRun
set_option maxRecDepth 20000 in
theorem ggX6_advance_X6_isSign : GoodIn wsX6_advance wsX6_isSign := goodIn_r _ [26] (by decide +kernel) (by decide +kernel)
set_option maxRecDepth 20000 in
theorem gX6_advance_X6_isSign : GoodIn wsX6_advance (va_wsS RX6 57 yX6_isSign wsX6_isSign) := goodIn_app (goodIn_of _ (by decide +kernel)) ggX6_advance_X6_isSign
set_option maxRecDepth 20000 in
theorem ggX6_goesOn_X6_isBroken : GoodIn wsX6_goesOn wsX6_isBroken := goodIn_r _ [6, 7, 8, 9, 10, 11, 12, 13, 14, 15, 16, 17] (by decide +kernel) (by decide +kernel)
set_option maxRecDepth 20000 in
theorem gX6_goesOn_X6_isBroken : GoodIn wsX6_goesOn (wsV RX6 34 RX6 yX6_isBroken wsX6_isBroken) := goodIn_app (goodIn_of _ (by decide +kernel)) ggX6_goesOn_X6_isBroken
set_option maxRecDepth 20000 in
theorem ggX6_fail_X6_isBroken : GoodIn wsX6_fail wsX6_isBroken := goodIn_r _ [10, 1, 11, 12, 13, 14, 15, 16, 17, 18, 19, 20] (by decide +kernel) (by decide +kernel)
set_option maxRecDepth 20000 in
theorem gX6_fail_X6_isBroken : GoodIn wsX6_fail (wsV RX6 34 RX6 yX6_isBroken wsX6_isBroken) := goodIn_app (goodIn_of _ (by decide +kernel)) ggX6_fail_X6_isBroken
set_option maxRecDepth 20000 in
theorem ggX6_takeIf_X6_sees : GoodIn wsX6_takeIf wsX6_sees := goodIn_r _ [5, 6, 7, 8, 36, 37, 38, 39, 40, 41, 42, 43, 44, 45] (by decide +kernel) (by decide +kernel)
set_option maxRecDepth 20000 in
theorem gX6_takeIf_X6_sees : GoodIn wsX6_takeIf (wsV RX6 73 RX6 yX6_sees wsX6_sees) := goodIn_app (goodIn_of _ (by decide +kernel)) ggX6_takeIf_X6_sees
set_option maxRecDepth 20000 in
theorem ggX6_takeIf_X6_advance : GoodIn wsX6_takeIf wsX6_advance := goodIn_r _ [12, 13, 14, 15, 16, 17, 18, 19, 20, 7, 21, 6, 22, 23, 24, 4, 25, 26, 27, 28, 29, 30, 31, 32, 33, 34, 35, 36, 37, 38, 39, 40, 41, 42, 43, 44, 45] (by decide +kernel) (by decide +kernel)
set_option maxRecDepth 20000 in
theorem gX6_takeIf_X6_advance : GoodIn wsX6_takeIf (wsV RX6 31 RX6 yX6_advance wsX6_advance) := goodIn_app (goodIn_of _ (by decide +kernel)) ggX6_takeIf_X6_advance
set_option maxRecDepth 20000 in
theorem ggX6_takeSign_X6_seesSign : GoodIn wsX6_takeSign wsX6_seesSign := goodIn_r _ [5, 6, 40, 41, 42, 43, 44, 45, 46, 47, 48, 49] (by decide +kernel) (by decide +kernel)
set_option maxRecDepth 20000 in
theorem gX6_takeSign_X6_seesSign : GoodIn wsX6_takeSign (wsV RX6 77 RX6 yX6_seesSign wsX6_seesSign) := goodIn_app (goodIn_of _ (by decide +kernel)) ggX6_takeSign_X6_seesSign
set_option maxRecDepth 20000 in
theorem ggX6_takeSign_X6_advance : GoodIn wsX6_takeSign wsX6_advance := goodIn_r _ [10, 11, 12, 13, 14, 15, 16, 17, 18, 19, 20, 6, 21, 22, 23, 4, 24, 25, 26, 27, 28, 29, 30, 31, 32, 33, 34, 40, 41, 42, 43, 44, 45, 46, 47, 48, 49] (by decide +kernel) (by decide +kernel)
set_option maxRecDepth 20000 in
theorem gX6_takeSign_X6_advance : GoodIn wsX6_takeSign (wsV RX6 31 RX6 yX6_advance wsX6_advance) := goodIn_app (goodIn_of _ (by decide +kernel)) ggX6_takeSign_X6_advance
set_option maxRecDepth 20000 in
theorem ggX6_takeSign_X6_fail : GoodIn wsX6_takeSign wsX6_fail := goodIn_r _ [38, 25, 20, 39, 6, 19, 21, 22, 23, 4, 24, 40, 41, 42, 43, 44, 45, 46, 47, 48, 49] (by decide +kernel) (by decide +kernel)
set_option maxRecDepth 20000 in
theorem gX6_takeSign_X6_fail : GoodIn wsX6_takeSign (wsV RX6 80 RX6 yX6_fail wsX6_fail) := goodIn_app (goodIn_of _ (by decide +kernel)) ggX6_takeSign_X6_fail
set_option maxRecDepth 20000 in
theorem ggX6_takeNumber_X6_fail : GoodIn wsX6_takeNumber wsX6_fail := goodIn_r _ [7, 8, 9, 10, 1, 11, 12, 13, 14, 6, 15, 36, 37, 38, 39, 40, 41, 42, 43, 44, 45] (by decide +kernel) (by decide +kernel)
set_option maxRecDepth 20000 in
theorem gX6_takeNumber_X6_fail : GoodIn wsX6_takeNumber (wsV RX6 80 RX6 yX6_fail wsX6_fail) := goodIn_app (goodIn_of _ (by decide +kernel)) ggX6_takeNumber_X6_fail
set_option maxRecDepth 20000 in
theorem ggX6_takeNumber_X6_advance : GoodIn wsX6_takeNumber wsX6_advance := goodIn_r _ [19, 20, 21, 22, 23, 24, 25, 26, 27, 11, 9, 1, 12, 13, 14, 6, 15, 8, 28, 29, 30, 31, 2, 32, 33, 34, 35, 36, 37, 38, 39, 40, 41, 42, 43, 44, 45] (by decide +kernel) (by decide +kernel)
set_option maxRecDepth 20000 in
theorem gX6_takeNumber_X6_advance : GoodIn wsX6_takeNumber (wsV RX6 31 RX6 yX6_advance wsX6_advance) := goodIn_app (goodIn_of _ (by decide +kernel)) ggX6_takeNumber_X6_advance
set_option maxRecDepth 20000 in
theorem ggX6_takeFound_X6_seesName : GoodIn wsX6_takeFound wsX6_seesName := goodIn_r _ [5, 6, 7, 8, 41, 42, 43, 44, 45, 46, 47, 48, 49, 50] (by decide +kernel) (by decide +kernel)
set_option maxRecDepth 20000 in
theorem gX6_takeFound_X6_seesName : GoodIn wsX6_takeFound (wsV RX6 84 RX6 yX6_seesName wsX6_seesName) := goodIn_app (goodIn_of _ (by decide +kernel)) ggX6_takeFound_X6_seesName
set_option maxRecDepth 20000 in
theorem ggX6_takeFound_X6_fail : GoodIn wsX6_takeFound wsX6_fail := goodIn_r _ [12, 13, 14, 15, 6, 7, 16, 17, 18, 4, 19, 41, 42, 43, 44, 45, 46, 47, 48, 49, 50] (by decide +kernel) (by decide +kernel)
set_option maxRecDepth 20000 in
theorem gX6_takeFound_X6_fail : GoodIn wsX6_takeFound (wsV RX6 80 RX6 yX6_fail wsX6_fail) := goodIn_app (goodIn_of _ (by decide +kernel)) ggX6_takeFound_X6_fail
set_option maxRecDepth 20000 in
theorem ggX6_takeFound_X6_advance : GoodIn wsX6_takeFound wsX6_advance := goodIn_r _ [23, 24, 25, 26, 27, 28, 29, 30, 31, 7, 14, 6, 16, 17, 18, 4, 19, 13, 32, 33, 34, 35, 36, 37, 38, 39, 40, 41, 42, 43, 44, 45, 46, 47, 48, 49, 50] (by decide +kernel) (by decide +kernel)
set_option maxRecDepth 20000 in
theorem gX6_takeFound_X6_advance : GoodIn wsX6_takeFound (wsV RX6 31 RX6 yX6_advance wsX6_advance) := goodIn_app (goodIn_of _ (by decide +kernel)) ggX6_takeFound_X6_advance
set_option maxRecDepth 20000 in
theorem ggX6_takeNewName_X6_seesName : GoodIn wsX6_takeNewName wsX6_seesName := goodIn_r _ [6, 7, 1, 8, 41, 42, 43, 44, 45, 46, 47, 48, 49, 50] (by decide +kernel) (by decide +kernel)
set_option maxRecDepth 20000 in
theorem gX6_takeNewName_X6_seesName : GoodIn wsX6_takeNewName (wsV RX6 84 RX6 yX6_seesName wsX6_seesName) := goodIn_app (goodIn_of _ (by decide +kernel)) ggX6_takeNewName_X6_seesName
set_option maxRecDepth 20000 in
theorem ggX6_takeNewName_X6_fail : GoodIn wsX6_takeNewName wsX6_fail := goodIn_r _ [12, 13, 14, 15, 7, 1, 16, 17, 18, 5, 19, 41, 42, 43, 44, 45, 46, 47, 48, 49, 50] (by decide +kernel) (by decide +kernel)
set_option maxRecDepth 20000 in
theorem gX6_takeNewName_X6_fail : GoodIn wsX6_takeNewName (wsV RX6 80 RX6 yX6_fail wsX6_fail) := goodIn_app (goodIn_of _ (by decide +kernel)) ggX6_takeNewName_X6_fail
set_option maxRecDepth 20000 in
theorem ggX6_takeNewName_X6_advance : GoodIn wsX6_takeNewName wsX6_advance := goodIn_r _ [23, 24, 25, 26, 27, 28, 29, 30, 31, 1, 14, 7, 16, 17, 18, 5, 19, 13, 32, 33, 34, 35, 36, 37, 38, 39, 40, 41, 42, 43, 44, 45, 46, 47, 48, 49, 50] (by decide +kernel) (by decide +kernel)
set_option maxRecDepth 20000 in
theorem gX6_takeNewName_X6_advance : GoodIn wsX6_takeNewName (wsV RX6 31 RX6 yX6_advance wsX6_advance) := goodIn_app (goodIn_of _ (by decide +kernel)) ggX6_takeNewName_X6_advance
set_option maxRecDepth 20000 in
theorem ggX7_saidOf_X7_setOf : GoodIn wsX7_saidOf wsX7_setOf := goodIn_r _ [12, 3, 13, 14, 15, 16, 1, 17, 18, 19, 11, 20, 21, 22, 23, 24, 25, 26, 27, 28, 29, 30, 31, 32, 33, 34, 35, 36, 37, 38, 39, 40, 41, 42, 43, 44, 45, 46, 47, 48, 49, 50, 51, 52, 53, 54, 55, 56, 57, 74, 75, 76, 77, 78, 79, 80, 81, 82, 83, 84, 85, 86, 87, 88, 89, 90, 58, 59, 60, 61, 62, 63, 64, 65, 66, 67, 68, 69, 70, 71, 72, 73] (by decide +kernel) (by decide +kernel)
set_option maxRecDepth 20000 in
theorem gX7_saidOf_X7_setOf : GoodIn wsX7_saidOf (wsV RX7 50 RX7 yX7_setOf wsX7_setOf) := goodIn_app (goodIn_of _ (by decide +kernel)) ggX7_saidOf_X7_setOf
set_option maxRecDepth 20000 in
theorem ggX7_setOf_X7_isSo : GoodIn wsX7_setOf wsX7_isSo := goodIn_r _ [11, 1, 12, 13, 14, 15, 16, 17, 18, 19, 20, 21, 22, 23, 24, 25, 26, 27, 28, 29, 30, 31, 32, 33, 34, 35, 36, 37, 38, 39, 40, 41, 42, 43, 44, 45, 46, 47, 10, 48, 49, 50, 51, 52, 53, 54, 55, 56, 57, 58, 59, 60, 61, 62, 63, 64, 65, 66, 67, 68, 69, 70, 71, 72, 73, 74, 75, 76, 77, 78, 79, 80, 81] (by decide +kernel) (by decide +kernel)
set_option maxRecDepth 20000 in
theorem gX7_setOf_X7_isSo : GoodIn wsX7_setOf (wsV RX7 68 RX7 yX7_isSo wsX7_isSo) := goodIn_app (goodIn_of _ (by decide +kernel)) ggX7_setOf_X7_isSo
set_option maxRecDepth 20000 in
theorem ggX7_isSo_X9_ringOf : GoodIn wsX7_isSo wsX9_ringOf := goodIn_r _ [21, 22, 23, 24, 25, 9, 26, 27, 28, 29, 30, 31, 32, 33, 34, 57, 58, 59, 60, 61, 62, 63, 64, 65, 66, 67, 68, 69, 70, 71, 72, 46, 47, 48, 49, 50, 51, 52, 53, 54, 55, 56] (by decide +kernel) (by decide +kernel)
set_option maxRecDepth 20000 in
theorem gX7_isSo_X9_ringOf : GoodIn wsX7_isSo (wsV RX7 81 RX9 yX9_ringOf wsX9_ringOf) := goodIn_app (goodIn_of _ (by decide +kernel)) ggX7_isSo_X9_ringOf
set_option maxRecDepth 20000 in
theorem ggX7_isSo_X7_compares : GoodIn wsX7_isSo wsX7_compares := goodIn_r _ [39, 5, 6, 40, 41, 42, 43, 44, 45] (by decide +kernel) (by decide +kernel)
set_option maxRecDepth 20000 in
theorem gX7_isSo_X7_compares : GoodIn wsX7_isSo (wsV RX7 100 RX7 yX7_compares wsX7_compares) := goodIn_app (goodIn_of _ (by decide +kernel)) ggX7_isSo_X7_compares
set_option maxRecDepth 20000 in
theorem ggX8_init_X7_init : GoodIn wsX8_init wsX7_init := goodIn_r _ [10, 11, 2, 3, 12, 13, 14, 15, 16, 17, 18, 19, 20, 21, 22, 23] (by decide +kernel) (by decide +kernel)
set_option maxRecDepth 20000 in
theorem gX8_init_X7_init_n11 : GoodIn wsX8_init (wsX7_init) := ggX8_init_X7_init
set_option maxRecDepth 20000 in
theorem ggX8_begin_X7_empty : GoodIn wsX8_begin wsX7_empty := goodIn_r _ [8, 9, 10, 49, 50, 51, 52, 53, 54] (by decide +kernel) (by decide +kernel)
set_option maxRecDepth 20000 in
theorem gX8_begin_X7_empty : GoodIn wsX8_begin (wsV RX8 22 RX7 yX7_empty wsX7_empty) := goodIn_app (goodIn_of _ (by decide +kernel)) ggX8_begin_X7_empty
set_option maxRecDepth 20000 in
theorem ggX8_begin_X6_begin : GoodIn wsX8_begin wsX6_begin := goodIn_r _ [15, 16, 17, 18, 19, 20, 21, 22, 14, 23, 24, 25, 26, 27, 28, 29, 30, 31, 32, 33, 34, 35, 36, 37, 38, 39, 40, 41, 42, 43, 44, 45, 55, 56, 57, 58, 59, 60, 61, 62, 63, 64] (by decide +kernel) (by decide +kernel)
set_option maxRecDepth 20000 in
theorem gX8_begin_X6_begin : GoodIn wsX8_begin (wsV RX8 29 RX6 yX6_begin wsX6_begin) := goodIn_app (goodIn_of _ (by decide +kernel)) ggX8_begin_X6_begin
set_option maxRecDepth 20000 in
theorem ggX8_finish_X6_goesOn : GoodIn wsX8_finish wsX6_goesOn := goodIn_r _ [8, 9, 10, 11, 12, 7, 13, 14, 31, 32, 33, 34, 35, 36, 37, 38, 39, 40] (by decide +kernel) (by decide +kernel)
set_option maxRecDepth 20000 in
theorem gX8_finish_X6_goesOn : GoodIn wsX8_finish (wsV RX8 35 RX6 yX6_goesOn wsX6_goesOn) := goodIn_app (goodIn_of _ (by decide +kernel)) ggX8_finish_X6_goesOn
set_option maxRecDepth 20000 in
theorem ggX8_finish_X6_fail : GoodIn wsX8_finish wsX6_fail := goodIn_r _ [18, 14, 19, 20, 9, 21, 10, 11, 12, 7, 13, 31, 32, 33, 34, 35, 36, 37, 38, 39, 40] (by decide +kernel) (by decide +kernel)
set_option maxRecDepth 20000 in
theorem gX8_finish_X6_fail : GoodIn wsX8_finish (wsV RX8 39 RX6 yX6_fail wsX6_fail) := goodIn_app (goodIn_of _ (by decide +kernel)) ggX8_finish_X6_fail
set_option maxRecDepth 20000 in
theorem ggX8_readCond_X8_readAll : GoodIn wsX8_readCond wsX8_readAll := goodIn_r _ [56, 1, 57, 3, 58, 59, 60, 7, 8, 9, 10, 11, 12, 13, 14, 15, 16, 17, 18, 19, 20, 21, 22, 23, 24, 25, 26, 27, 28, 29, 30, 31, 32, 33, 34, 35, 36, 37, 38, 39, 40, 41, 42, 43, 44, 45, 46, 47, 48, 49, 50, 51, 52, 53, 54, 55, 0, 2, 4, 5, 6, 61, 62, 63, 64, 65, 66, 67, 68, 69, 70, 71, 72, 73, 74, 75, 76, 77, 78, 79, 80, 81, 82, 83, 84, 85, 86, 87, 88, 89, 90, 91, 92, 93, 94, 95, 96, 97, 98, 99, 100, 101, 102, 103, 104, 105, 106, 107, 108, 109, 110, 111, 112, 113, 114, 115, 116, 117, 118, 119, 120, 121, 122, 123, 124, 125, 126, 127, 128, 129, 130, 131, 132, 133, 134, 135, 136, 137, 138, 139, 140, 141, 142, 143, 144, 145, 146, 147, 148, 149, 150, 151, 152, 153, 154, 155, 156, 157, 158, 159, 160, 161, 162, 163, 164, 165, 166, 167, 168, 169, 170, 171, 172, 173] (by decide +kernel) (by decide +kernel)
set_option maxRecDepth 20000 in
theorem gX8_readCond_X8_readAll : GoodIn wsX8_readCond (wsV RX8 46 RX8 yX8_readAll wsX8_readAll) := goodIn_app (goodIn_of _ (by decide +kernel)) ggX8_readCond_X8_readAll
set_option maxRecDepth 20000 in
theorem ggX8_readCond_X6_takeIf : GoodIn wsX8_readCond wsX6_takeIf := goodIn_r _ [12, 13, 14, 15, 11, 16, 17, 18, 19, 20, 21, 22, 23, 24, 25, 26, 27, 28, 29, 30, 31, 32, 33, 34, 35, 36, 37, 38, 39, 40, 41, 42, 43, 44, 45, 46, 142, 143, 144, 145, 146, 147, 148, 149, 150, 151] (by decide +kernel) (by decide +kernel)
set_option maxRecDepth 20000 in
theorem gX8_readCond_X6_takeIf : GoodIn wsX8_readCond (wsV RX8 56 RX6 yX6_takeIf wsX6_takeIf) := goodIn_app (goodIn_of _ (by decide +kernel)) ggX8_readCond_X6_takeIf
set_option maxRecDepth 20000 in
theorem ggX8_readCond_X7_add : GoodIn wsX8_readCond wsX7_add := goodIn_r _ [51, 52, 53, 54, 55, 152, 153, 154, 155, 156, 157] (by decide +kernel) (by decide +kernel)
set_option maxRecDepth 20000 in
theorem gX8_readCond_X7_add : GoodIn wsX8_readCond (wsV RX8 60 RX7 yX7_add wsX7_add) := goodIn_app (goodIn_of _ (by decide +kernel)) ggX8_readCond_X7_add
set_option maxRecDepth 20000 in
theorem ggX8_readAll_X8_readOne : GoodIn wsX8_readAll wsX8_readOne := goodIn_r _ [61, 1, 62, 63, 3, 64, 65, 66, 7, 67, 68, 14, 15, 11, 16, 17, 18, 19, 69, 70, 71, 72, 73, 74, 75, 76, 77, 78, 79, 80, 81, 82, 83, 84, 85, 86, 87, 88, 89, 90, 37, 32, 91, 33, 34, 35, 36, 92, 21, 22, 23, 24, 25, 26, 27, 28, 29, 30, 31, 38, 39, 40, 41, 42, 43, 44, 45, 46, 93, 94, 95, 96, 97, 98, 99, 100, 20, 101, 4, 5, 6, 47, 48, 49, 50, 51, 52, 53, 54, 55, 102, 103, 104, 105, 106, 107, 108, 109, 110, 111, 112, 113, 114, 115, 116, 117, 118, 119, 120, 121, 122, 123, 124, 125, 126, 127, 128, 129, 130, 131, 132, 133, 134, 135, 136, 137, 138, 0, 2, 8, 9, 10, 12, 13, 56, 57, 58, 59, 60, 139, 140, 141, 142, 143, 144, 145, 146, 147, 148, 149, 150, 151, 152, 153, 154, 155, 156, 157, 158, 159, 160, 161, 162, 163, 164, 165, 166, 167, 168, 169, 170, 171, 172, 173] (by decide +kernel) (by decide +kernel)
set_option maxRecDepth 20000 in
theorem gX8_readAll_X8_readOne : GoodIn wsX8_readAll (wsV RX8 64 RX8 yX8_readOne wsX8_readOne) := goodIn_app (goodIn_of _ (by decide +kernel)) ggX8_readAll_X8_readOne
set_option maxRecDepth 20000 in
theorem ggX8_readAll_X6_takeIf : GoodIn wsX8_readAll wsX6_takeIf := goodIn_r _ [12, 13, 14, 15, 11, 16, 17, 18, 19, 20, 21, 22, 23, 24, 25, 26, 27, 28, 29, 30, 31, 32, 33, 34, 35, 36, 37, 38, 39, 40, 41, 42, 43, 44, 45, 46, 142, 143, 144, 145, 146, 147, 148, 149, 150, 151] (by decide +kernel) (by decide +kernel)
set_option maxRecDepth 20000 in
theorem gX8_readAll_X6_takeIf : GoodIn wsX8_readAll (wsV RX8 56 RX6 yX6_takeIf wsX6_takeIf) := goodIn_app (goodIn_of _ (by decide +kernel)) ggX8_readAll_X6_takeIf
set_option maxRecDepth 20000 in
theorem ggX8_readAll_X7_add : GoodIn wsX8_readAll wsX7_add := goodIn_r _ [51, 52, 53, 54, 55, 152, 153, 154, 155, 156, 157] (by decide +kernel) (by decide +kernel)
set_option maxRecDepth 20000 in
theorem gX8_readAll_X7_add : GoodIn wsX8_readAll (wsV RX8 60 RX7 yX7_add wsX7_add) := goodIn_app (goodIn_of _ (by decide +kernel)) ggX8_readAll_X7_add
set_option maxRecDepth 20000 in
theorem ggX8_readOne_X8_plainWord : GoodIn wsX8_readOne wsX8_plainWord := goodIn_r _ [9, 1, 10, 11, 12, 13, 14, 15, 16, 17, 18, 19, 8, 20, 21, 22, 23, 24, 25, 26, 27, 28, 29, 30, 31, 139, 140, 141, 142, 143, 144, 145, 146, 147, 148, 149, 150, 151] (by decide +kernel) (by decide +kernel)
set_option maxRecDepth 20000 in
theorem gX8_readOne_X8_plainWord : GoodIn wsX8_readOne (wsV RX8 70 RX8 yX8_plainWord wsX8_plainWord) := goodIn_app (goodIn_of _ (by decide +kernel)) ggX8_readOne_X8_plainWord
set_option maxRecDepth 20000 in
theorem ggX8_readOne_X6_sees : GoodIn wsX8_readOne wsX6_sees := goodIn_r _ [14, 15, 16, 17, 142, 143, 144, 145, 146, 147, 148, 149, 150, 151] (by decide +kernel) (by decide +kernel)
set_option maxRecDepth 20000 in
theorem gX8_readOne_X6_sees : GoodIn wsX8_readOne (wsV RX8 77 RX6 yX6_sees wsX6_sees) := goodIn_app (goodIn_of _ (by decide +kernel)) ggX8_readOne_X6_sees
set_option maxRecDepth 20000 in
theorem ggX8_readOne_X6_seesSign : GoodIn wsX8_readOne wsX6_seesSign := goodIn_r _ [35, 15, 142, 143, 144, 145, 146, 147, 148, 149, 150, 151] (by decide +kernel) (by decide +kernel)
set_option maxRecDepth 20000 in
theorem gX8_readOne_X6_seesSign : GoodIn wsX8_readOne (wsV RX8 80 RX6 yX6_seesSign wsX6_seesSign) := goodIn_app (goodIn_of _ (by decide +kernel)) ggX8_readOne_X6_seesSign
set_option maxRecDepth 20000 in
theorem ggX8_readOne_X6_fail : GoodIn wsX8_readOne wsX6_fail := goodIn_r _ [39, 40, 41, 42, 15, 16, 43, 44, 45, 13, 46, 142, 143, 144, 145, 146, 147, 148, 149, 150, 151] (by decide +kernel) (by decide +kernel)
set_option maxRecDepth 20000 in
theorem gX8_readOne_X6_fail : GoodIn wsX8_readOne (wsV RX8 39 RX6 yX6_fail wsX6_fail) := goodIn_app (goodIn_of _ (by decide +kernel)) ggX8_readOne_X6_fail
set_option maxRecDepth 20000 in
theorem ggX8_readOne_X6_advance : GoodIn wsX8_readOne wsX6_advance := goodIn_r _ [50, 51, 52, 53, 54, 55, 56, 57, 58, 16, 41, 15, 43, 44, 45, 13, 46, 40, 59, 60, 61, 62, 63, 64, 65, 66, 67, 142, 143, 144, 145, 146, 147, 148, 149, 150, 151] (by decide +kernel) (by decide +kernel)
set_option maxRecDepth 20000 in
theorem gX8_readOne_X6_advance : GoodIn wsX8_readOne (wsV RX8 84 RX6 yX6_advance wsX6_advance) := goodIn_app (goodIn_of _ (by decide +kernel)) ggX8_readOne_X6_advance
set_option maxRecDepth 20000 in
theorem ggX8_readOne_X8_readCond : GoodIn wsX8_readOne wsX8_readCond := goodIn_r _ [134, 1, 135, 4, 136, 137, 138, 8, 129, 130, 131, 13, 132, 133, 11, 12, 14, 15, 16, 17, 76, 48, 49, 50, 51, 52, 53, 54, 55, 56, 57, 58, 41, 43, 44, 45, 46, 40, 59, 60, 61, 62, 63, 64, 65, 66, 67, 81, 82, 83, 84, 85, 86, 87, 88, 89, 127, 128, 78, 79, 80, 0, 2, 3, 5, 6, 7, 9, 10, 18, 19, 20, 21, 22, 23, 24, 25, 26, 27, 28, 29, 30, 31, 32, 33, 34, 35, 36, 37, 38, 39, 42, 47, 68, 69, 70, 71, 72, 73, 74, 75, 77, 90, 91, 92, 93, 94, 95, 96, 97, 98, 99, 100, 101, 102, 103, 104, 105, 106, 107, 108, 109, 110, 111, 112, 113, 114, 115, 116, 117, 118, 119, 120, 121, 122, 123, 124, 125, 126, 139, 140, 141, 142, 143, 144, 145, 146, 147, 148, 149, 150, 151, 152, 153, 154, 155, 156, 157, 158, 159, 160, 161, 162, 163, 164, 165, 166, 167, 168, 169, 170, 171, 172, 173] (by decide +kernel) (by decide +kernel)
set_option maxRecDepth 20000 in
theorem gX8_readOne_X8_readCond : GoodIn wsX8_readOne (wsV RX8 87 RX8 yX8_readCond wsX8_readCond) := goodIn_app (goodIn_of _ (by decide +kernel)) ggX8_readOne_X8_readCond
set_option maxRecDepth 20000 in
theorem ggX8_readOne_X6_takeSign : GoodIn wsX8_readOne wsX6_takeSign := goodIn_r _ [74, 75, 33, 34, 13, 35, 15, 76, 48, 49, 50, 51, 52, 53, 54, 55, 56, 57, 58, 16, 41, 43, 44, 45, 46, 40, 59, 60, 61, 62, 63, 64, 65, 66, 67, 77, 37, 38, 39, 42, 142, 143, 144, 145, 146, 147, 148, 149, 150, 151] (by decide +kernel) (by decide +kernel)
set_option maxRecDepth 20000 in
theorem gX8_readOne_X6_takeSign : GoodIn wsX8_readOne (wsV RX8 90 RX6 yX6_takeSign wsX6_takeSign) := goodIn_app (goodIn_of _ (by decide +kernel)) ggX8_readOne_X6_takeSign
set_option maxRecDepth 20000 in
theorem ggX8_readOne_X8_readOne : GoodIn wsX8_readOne wsX8_readOne := goodIn_r _ [0, 1, 2, 3, 4, 5, 6, 7, 8, 9, 10, 11, 12, 13, 14, 15, 16, 17, 18, 19, 20, 21, 22, 23, 24, 25, 26, 27, 28, 29, 30, 31, 32, 33, 34, 35, 36, 37, 38, 39, 40, 41, 42, 43, 44, 45, 46, 47, 48, 49, 50, 51, 52, 53, 54, 55, 56, 57, 58, 59, 60, 61, 62, 63, 64, 65, 66, 67, 68, 69, 70, 71, 72, 73, 74, 75, 76, 77, 78, 79, 80, 81, 82, 83, 84, 85, 86, 87, 88, 89, 90, 91, 92, 93, 94, 95, 96, 97, 98, 99, 100, 101, 102, 103, 104, 105, 106, 107, 108, 109, 110, 111, 112, 113, 114, 115, 116, 117, 118, 119, 120, 121, 122, 123, 124, 125, 126, 127, 128, 129, 130, 131, 132, 133, 134, 135, 136, 137, 138, 139, 140, 141, 142, 143, 144, 145, 146, 147, 148, 149, 150, 151, 152, 153, 154, 155, 156, 157, 158, 159, 160, 161, 162, 163, 164, 165, 166, 167, 168, 169, 170, 171, 172, 173] (by decide +kernel) (by decide +kernel)
set_option maxRecDepth 20000 in
theorem gX8_readOne_X8_readOne : GoodIn wsX8_readOne (wsV RX8 64 RX8 yX8_readOne wsX8_readOne) := goodIn_app (goodIn_of _ (by decide +kernel)) ggX8_readOne_X8_readOne
set_option maxRecDepth 20000 in
theorem ggX8_readOne_X7_add : GoodIn wsX8_readOne wsX7_add := goodIn_r _ [85, 86, 87, 88, 89, 152, 153, 154, 155, 156, 157] (by decide +kernel) (by decide +kernel)
set_option maxRecDepth 20000 in
theorem gX8_readOne_X7_add : GoodIn wsX8_readOne (wsV RX8 60 RX7 yX7_add wsX7_add) := goodIn_app (goodIn_of _ (by decide +kernel)) ggX8_readOne_X7_add
set_option maxRecDepth 20000 in
theorem ggX8_readOne_X8_readPlain : GoodIn wsX8_readOne wsX8_readPlain := goodIn_r _ [93, 24, 1, 94, 4, 95, 96, 97, 98, 99, 100, 101, 102, 103, 104, 105, 106, 107, 13, 108, 109, 110, 111, 112, 15, 16, 17, 77, 37, 38, 39, 40, 41, 42, 43, 44, 45, 46, 76, 48, 49, 50, 51, 52, 53, 54, 55, 56, 57, 58, 59, 60, 61, 62, 63, 64, 65, 66, 67, 113, 114, 115, 116, 117, 118, 25, 26, 8, 27, 28, 29, 30, 31, 119, 120, 121, 122, 32, 33, 34, 35, 71, 72, 73, 74, 75, 123, 124, 125, 126, 81, 82, 83, 84, 85, 86, 87, 88, 89, 139, 140, 141, 142, 143, 144, 145, 146, 147, 148, 149, 150, 151, 158, 159, 160, 161, 162, 163, 164, 165, 166, 167, 168, 169, 170, 171, 172, 173, 152, 153, 154, 155, 156, 157] (by decide +kernel) (by decide +kernel)
set_option maxRecDepth 20000 in
theorem gX8_readOne_X8_readPlain : GoodIn wsX8_readOne (wsV RX8 93 RX8 yX8_readPlain wsX8_readPlain) := goodIn_app (goodIn_of _ (by decide +kernel)) ggX8_readOne_X8_readPlain
set_option maxRecDepth 20000 in
theorem ggX8_plainWord_X6_sees : GoodIn wsX8_plainWord wsX6_sees := goodIn_r _ [6, 7, 8, 9, 28, 29, 30, 31, 32, 33, 34, 35, 36, 37] (by decide +kernel) (by decide +kernel)
set_option maxRecDepth 20000 in
theorem gX8_plainWord_X6_sees : GoodIn wsX8_plainWord (wsV RX8 77 RX6 yX6_sees wsX6_sees) := goodIn_app (goodIn_of _ (by decide +kernel)) ggX8_plainWord_X6_sees
set_option maxRecDepth 20000 in
theorem ggX8_plainWord_X8_isPlain : GoodIn wsX8_plainWord wsX8_isPlain := goodIn_r _ [13, 14, 15, 16, 17, 18, 19, 12, 20, 21, 22, 23, 24] (by decide +kernel) (by decide +kernel)
set_option maxRecDepth 20000 in
theorem gX8_plainWord_X8_isPlain : GoodIn wsX8_plainWord (va_wsS RX8 101 yX8_isPlain wsX8_isPlain) := goodIn_app (goodIn_of _ (by decide +kernel)) ggX8_plainWord_X8_isPlain
set_option maxRecDepth 20000 in
theorem ggX8_isPlain_X8_isMeasure : GoodIn wsX8_isPlain wsX8_isMeasure := goodIn_r _ [8, 9, 10, 11, 12] (by decide +kernel) (by decide +kernel)
set_option maxRecDepth 20000 in
theorem gX8_isPlain_X8_isMeasure : GoodIn wsX8_isPlain (va_wsS RX8 116 yX8_isMeasure wsX8_isMeasure) := goodIn_app (goodIn_of _ (by decide +kernel)) ggX8_isPlain_X8_isMeasure
set_option maxRecDepth 20000 in
theorem ggX8_readPlain_X5_floorNamed : GoodIn wsX8_readPlain wsX5_floorNamed := goodIn_r _ [9, 10, 11, 12, 13, 8, 14, 112, 113, 114, 115, 116, 117, 118, 119, 120, 121, 122, 123, 124, 125, 126, 127] (by decide +kernel) (by decide +kernel)
set_option maxRecDepth 20000 in
theorem gX8_readPlain_X5_floorNamed : GoodIn wsX8_readPlain (wsV RX8 135 RX5 yX5_floorNamed wsX5_floorNamed) := goodIn_app (goodIn_of _ (by decide +kernel)) ggX8_readPlain_X5_floorNamed
set_option maxRecDepth 20000 in
theorem ggX8_readPlain_X6_takeFound : GoodIn wsX8_readPlain wsX6_takeFound := goodIn_r _ [19, 20, 21, 22, 18, 23, 24, 25, 26, 27, 28, 29, 30, 31, 32, 33, 34, 35, 36, 37, 38, 39, 40, 41, 42, 43, 44, 45, 46, 47, 48, 49, 50, 51, 52, 53, 54, 55, 56, 57, 58, 102, 103, 104, 105, 106, 107, 108, 109, 110, 111] (by decide +kernel) (by decide +kernel)
set_option maxRecDepth 20000 in
theorem gX8_readPlain_X6_takeFound : GoodIn wsX8_readPlain (wsV RX8 141 RX6 yX6_takeFound wsX6_takeFound) := goodIn_app (goodIn_of _ (by decide +kernel)) ggX8_readPlain_X6_takeFound
set_option maxRecDepth 20000 in
theorem ggX8_readPlain_X5_jurorNamed : GoodIn wsX8_readPlain wsX5_jurorNamed := goodIn_r _ [62, 63, 64, 12, 13, 8, 14, 112, 113, 114, 115, 116, 117, 118, 119, 120, 121, 122, 123, 124, 125, 126, 127] (by decide +kernel) (by decide +kernel)
set_option maxRecDepth 20000 in
theorem gX8_readPlain_X5_jurorNamed : GoodIn wsX8_readPlain (wsV RX8 145 RX5 yX5_jurorNamed wsX5_jurorNamed) := goodIn_app (goodIn_of _ (by decide +kernel)) ggX8_readPlain_X5_jurorNamed
set_option maxRecDepth 20000 in
theorem ggX8_readPlain_X8_isMeasure : GoodIn wsX8_readPlain wsX8_isMeasure := goodIn_r _ [68, 69, 70, 71, 72] (by decide +kernel) (by decide +kernel)
set_option maxRecDepth 20000 in
theorem gX8_readPlain_X8_isMeasure : GoodIn wsX8_readPlain (va_wsS RX8 116 yX8_isMeasure wsX8_isMeasure) := goodIn_app (goodIn_of _ (by decide +kernel)) ggX8_readPlain_X8_isMeasure
set_option maxRecDepth 20000 in
theorem ggX8_readPlain_X8_seenSign : GoodIn wsX8_readPlain wsX8_seenSign := goodIn_r _ [76, 2, 77, 78, 79, 18, 80, 24, 99, 100, 101, 102, 103, 104, 105, 106, 107, 108, 109, 110, 111] (by decide +kernel) (by decide +kernel)
set_option maxRecDepth 20000 in
theorem gX8_readPlain_X8_seenSign : GoodIn wsX8_readPlain (wsV RX8 148 RX8 yX8_seenSign wsX8_seenSign) := goodIn_app (goodIn_of _ (by decide +kernel)) ggX8_readPlain_X8_seenSign
set_option maxRecDepth 20000 in
theorem ggX8_readPlain_X6_takeSign : GoodIn wsX8_readPlain wsX6_takeSign := goodIn_r _ [84, 85, 78, 79, 18, 80, 24, 38, 39, 40, 41, 42, 43, 44, 45, 46, 47, 48, 49, 25, 32, 34, 35, 36, 37, 31, 50, 51, 52, 53, 54, 55, 56, 57, 58, 27, 28, 29, 30, 33, 102, 103, 104, 105, 106, 107, 108, 109, 110, 111] (by decide +kernel) (by decide +kernel)
set_option maxRecDepth 20000 in
theorem gX8_readPlain_X6_takeSign : GoodIn wsX8_readPlain (wsV RX8 90 RX6 yX6_takeSign wsX6_takeSign) := goodIn_app (goodIn_of _ (by decide +kernel)) ggX8_readPlain_X6_takeSign
set_option maxRecDepth 20000 in
theorem ggX8_readPlain_X6_takeNumber : GoodIn wsX8_readPlain wsX6_takeNumber := goodIn_r _ [89, 24, 54, 27, 28, 29, 18, 30, 31, 32, 33, 25, 34, 35, 36, 37, 38, 39, 40, 41, 42, 43, 44, 45, 46, 47, 48, 49, 50, 51, 52, 53, 55, 56, 57, 58, 102, 103, 104, 105, 106, 107, 108, 109, 110, 111] (by decide +kernel) (by decide +kernel)
set_option maxRecDepth 20000 in
theorem gX8_readPlain_X6_takeNumber : GoodIn wsX8_readPlain (wsV RX8 152 RX6 yX6_takeNumber wsX6_takeNumber) := goodIn_app (goodIn_of _ (by decide +kernel)) ggX8_readPlain_X6_takeNumber
set_option maxRecDepth 20000 in
theorem ggX8_readPlain_X7_add : GoodIn wsX8_readPlain wsX7_add := goodIn_r _ [94, 95, 96, 97, 98, 128, 129, 130, 131, 132, 133] (by decide +kernel) (by decide +kernel)
set_option maxRecDepth 20000 in
theorem gX8_readPlain_X7_add : GoodIn wsX8_readPlain (wsV RX8 60 RX7 yX7_add wsX7_add) := goodIn_app (goodIn_of _ (by decide +kernel)) ggX8_readPlain_X7_add
set_option maxRecDepth 20000 in
theorem ggX8_seenSign_X6_seesSign : GoodIn wsX8_seenSign wsX6_seesSign := goodIn_r _ [6, 7, 11, 12, 13, 14, 15, 16, 17, 18, 19, 20] (by decide +kernel) (by decide +kernel)
set_option maxRecDepth 20000 in
theorem gX8_seenSign_X6_seesSign : GoodIn wsX8_seenSign (wsV RX8 80 RX6 yX6_seesSign wsX6_seesSign) := goodIn_app (goodIn_of _ (by decide +kernel)) ggX8_seenSign_X6_seesSign
set_option maxRecDepth 20000 in
theorem ggX9_ringOf_X5_ringWithoutDents : GoodIn wsX9_ringOf wsX5_ringWithoutDents := goodIn_r _ [11, 12, 13, 14, 15, 16, 17, 18, 19, 20, 21, 22, 23, 24, 25, 26, 27, 28, 29, 30] (by decide +kernel) (by decide +kernel)
set_option maxRecDepth 20000 in
theorem gX9_ringOf_X5_ringWithoutDents : GoodIn wsX9_ringOf (wsV RX9 58 RX5 yX5_ringWithoutDents wsX5_ringWithoutDents) := goodIn_app (goodIn_of _ (by decide +kernel)) ggX9_ringOf_X5_ringWithoutDents
set_option maxRecDepth 20000 in
theorem ggX9_apart_X5_ringWithoutDents : GoodIn wsX9_apart wsX5_ringWithoutDents := goodIn_r _ [13, 14, 15, 16, 24, 25, 26, 27, 28, 29, 30, 31, 32, 33, 34, 35, 36, 37, 38, 39] (by decide +kernel) (by decide +kernel)
set_option maxRecDepth 20000 in
theorem gX9_apart_X5_ringWithoutDents : GoodIn wsX9_apart (wsV RX9 58 RX5 yX5_ringWithoutDents wsX5_ringWithoutDents) := goodIn_app (goodIn_of _ (by decide +kernel)) ggX9_apart_X5_ringWithoutDents
set_option maxRecDepth 20000 in
theorem ggX9_apart_X9_ringOf : GoodIn wsX9_apart wsX9_ringOf := goodIn_r _ [21, 22, 23, 6, 7, 4, 8, 9, 10, 11, 12, 13, 14, 15, 16, 24, 25, 26, 27, 28, 29, 30, 31, 32, 33, 34, 35, 36, 37, 38, 39, 40, 41, 42, 43, 44, 45, 46, 47, 48, 49, 50] (by decide +kernel) (by decide +kernel)
set_option maxRecDepth 20000 in
theorem gX9_apart_X9_ringOf : GoodIn wsX9_apart (wsV RX9 73 RX9 yX9_ringOf wsX9_ringOf) := goodIn_app (goodIn_of _ (by decide +kernel)) ggX9_apart_X9_ringOf
set_option maxRecDepth 20000 in
theorem ggX9_whyNot_X9_whyNotTry : GoodIn wsX9_whyNot wsX9_whyNotTry := goodIn_r _ [8, 9, 10, 11, 12, 13, 7, 14, 1, 2, 25, 26, 27, 28, 29, 30, 31, 32, 33, 34, 35] (by decide +kernel) (by decide +kernel)
set_option maxRecDepth 20000 in
theorem gX9_whyNot_X9_whyNotTry : GoodIn wsX9_whyNot (wsV RX9 80 RX9 yX9_whyNotTry wsX9_whyNotTry) := goodIn_app (goodIn_of _ (by decide +kernel)) ggX9_whyNot_X9_whyNotTry
set_option maxRecDepth 20000 in
theorem ggX9_whyNot_X9_whyNotAppeal : GoodIn wsX9_whyNot wsX9_whyNotAppeal := goodIn_r _ [18, 9, 19, 25, 26, 27, 28, 29, 30, 31, 32, 33, 34, 35] (by decide +kernel) (by decide +kernel)
set_option maxRecDepth 20000 in
theorem gX9_whyNot_X9_whyNotAppeal : GoodIn wsX9_whyNot (wsV RX9 84 RX9 yX9_whyNotAppeal wsX9_whyNotAppeal) := goodIn_app (goodIn_of _ (by decide +kernel)) ggX9_whyNot_X9_whyNotAppeal
set_option maxRecDepth 20000 in
theorem ggX9_whyNot_X9_daysLeft : GoodIn wsX9_whyNot wsX9_daysLeft := goodIn_r _ [23, 24, 25, 26, 27, 28, 29, 30, 31, 32, 33, 34, 35] (by decide +kernel) (by decide +kernel)
set_option maxRecDepth 20000 in
theorem gX9_whyNot_X9_daysLeft : GoodIn wsX9_whyNot (wsV RX9 87 RX9 yX9_daysLeft wsX9_daysLeft) := goodIn_app (goodIn_of _ (by decide +kernel)) ggX9_whyNot_X9_daysLeft
set_option maxRecDepth 20000 in
theorem ggX9_whyNotTry_X9_droppers : GoodIn wsX9_whyNotTry wsX9_droppers := goodIn_r _ [7, 8, 9, 10, 11, 12, 13, 14, 15, 16, 17, 18, 19, 20] (by decide +kernel) (by decide +kernel)
set_option maxRecDepth 20000 in
theorem gX9_whyNotTry_X9_droppers : GoodIn wsX9_whyNotTry (wsV RX9 91 RX9 yX9_droppers wsX9_droppers) := goodIn_app (goodIn_of _ (by decide +kernel)) ggX9_whyNotTry_X9_droppers
set_option maxRecDepth 20000 in
theorem ggX9_carryOut_X9_dropLids : GoodIn wsX9_carryOut wsX9_dropLids := goodIn_r _ [9, 4, 10, 11, 12, 13, 14, 15, 1, 2, 16, 17, 18, 3, 19, 20, 21, 22, 23, 24, 25, 26, 8, 27, 28, 29, 30, 31, 32, 33, 34, 35, 36, 37, 38, 39, 40, 41, 42, 43, 44, 45, 46, 47, 52, 53, 54, 55, 56, 57, 58, 59, 60, 61, 62, 63, 64, 65, 66, 67, 68, 69, 70, 71, 72, 73, 74, 75, 76, 77, 78] (by decide +kernel) (by decide +kernel)
set_option maxRecDepth 20000 in
theorem gX9_carryOut_X9_dropLids : GoodIn wsX9_carryOut (wsV RX9 94 RX9 yX9_dropLids wsX9_dropLids) := goodIn_app (goodIn_of _ (by decide +kernel)) ggX9_carryOut_X9_dropLids
set_option maxRecDepth 20000 in
theorem ggX9_carryOut_X9_letDaysGo : GoodIn wsX9_carryOut wsX9_letDaysGo := goodIn_r _ [51, 13, 19, 20, 21, 22, 2, 17, 52, 53, 54, 55, 56, 57, 58, 59, 60, 61, 62] (by decide +kernel) (by decide +kernel)
set_option maxRecDepth 20000 in
theorem gX9_carryOut_X9_letDaysGo : GoodIn wsX9_carryOut (wsV RX9 98 RX9 yX9_letDaysGo wsX9_letDaysGo) := goodIn_app (goodIn_of _ (by decide +kernel)) ggX9_carryOut_X9_letDaysGo
set_option maxRecDepth 20000 in
theorem ggX9_dropLids_X9_droppers : GoodIn wsX9_dropLids wsX9_droppers := goodIn_r _ [23, 8, 9, 44, 45, 46, 47, 48, 49, 50, 51, 52, 53, 54] (by decide +kernel) (by decide +kernel)
set_option maxRecDepth 20000 in
theorem gX9_dropLids_X9_droppers : GoodIn wsX9_dropLids (wsV RX9 91 RX9 yX9_droppers wsX9_droppers) := goodIn_app (goodIn_of _ (by decide +kernel)) ggX9_dropLids_X9_droppers
set_option maxRecDepth 20000 in
theorem ggX9_dropLids_X9_apart : GoodIn wsX9_dropLids wsX9_apart := goodIn_r _ [27, 12, 14, 15, 16, 17, 28, 29, 30, 31, 32, 33, 34, 35, 36, 37, 38, 39, 40, 41, 22, 42, 43, 13, 55, 56, 57, 58, 59, 60, 61, 62, 63, 64, 65, 66, 67, 68, 69, 70, 44, 45, 46, 47, 48, 49, 50, 51, 52, 53, 54] (by decide +kernel) (by decide +kernel)
set_option maxRecDepth 20000 in
theorem gX9_dropLids_X9_apart : GoodIn wsX9_dropLids (wsV RX9 105 RX9 yX9_apart wsX9_apart) := goodIn_app (goodIn_of _ (by decide +kernel)) ggX9_dropLids_X9_apart
set_option maxRecDepth 20000 in
theorem ggX9_drawDays_X9_drawDay : GoodIn wsX9_drawDays wsX9_drawDay := goodIn_r _ [5, 6, 7, 8, 9, 10, 11, 4, 12, 13, 14, 15, 16, 17, 18, 19, 20, 21, 22, 23, 24, 25, 26, 27, 28, 29, 30, 31, 32, 33, 34, 35, 36, 37, 38, 39, 40, 41, 42, 43, 44, 45, 46, 47, 48, 49, 50, 51, 52, 53, 54, 55, 56, 57, 58, 59, 60, 61, 62, 63, 64, 65, 66, 67, 68, 69, 70, 71, 72, 73, 74, 75, 76, 77, 78, 79, 80, 81, 82, 83, 84, 85, 86, 87, 88, 89, 90, 91, 92, 93, 94, 95, 96, 97, 98, 99] (by decide +kernel) (by decide +kernel)
set_option maxRecDepth 20000 in
theorem gX9_drawDays_X9_drawDay : GoodIn wsX9_drawDays (wsV RX9 112 RX9 yX9_drawDay wsX9_drawDay) := goodIn_app (goodIn_of _ (by decide +kernel)) ggX9_drawDays_X9_drawDay
set_option maxRecDepth 20000 in
theorem ggX9_drawDay_X9_afterDraw : GoodIn wsX9_drawDay wsX9_afterDraw := goodIn_r _ [8, 9] (by decide +kernel) (by decide +kernel)
set_option maxRecDepth 20000 in
theorem gX9_drawDay_X9_afterDraw : GoodIn wsX9_drawDay (va_wsS RX9 116 yX9_afterDraw wsX9_afterDraw) := goodIn_app (goodIn_of _ (by decide +kernel)) ggX9_drawDay_X9_afterDraw
set_option maxRecDepth 20000 in
theorem ggX9_drawDay_X9_drawOf : GoodIn wsX9_drawDay wsX9_drawOf := goodIn_r _ [12] (by decide +kernel) (by decide +kernel)
set_option maxRecDepth 20000 in
theorem gX9_drawDay_X9_drawOf : GoodIn wsX9_drawDay (va_wsS RX9 119 yX9_drawOf wsX9_drawOf) := goodIn_app (goodIn_of _ (by decide +kernel)) ggX9_drawDay_X9_drawOf
set_option maxRecDepth 20000 in
theorem ggX9_drawDay_X9_carryOut : GoodIn wsX9_drawDay wsX9_carryOut := goodIn_r _ [16, 17, 18, 4, 19, 20, 21, 22, 7, 23, 24, 25, 26, 27, 28, 29, 30, 31, 1, 32, 33, 34, 35, 36, 37, 38, 39, 40, 41, 42, 43, 44, 45, 46, 47, 48, 49, 50, 51, 52, 53, 54, 55, 56, 57, 58, 59, 60, 61, 62, 63, 64, 85, 86, 87, 88, 89, 90, 91, 92, 93, 94, 95, 69, 70, 71, 72, 73, 74, 75, 76, 77, 78, 79, 80, 81, 82, 83, 84] (by decide +kernel) (by decide +kernel)
set_option maxRecDepth 20000 in
theorem gX9_drawDay_X9_carryOut : GoodIn wsX9_drawDay (wsV RX9 125 RX9 yX9_carryOut wsX9_carryOut) := goodIn_app (goodIn_of _ (by decide +kernel)) ggX9_drawDay_X9_carryOut
set_option maxRecDepth 20000 in
theorem ggX9_drawDay_X9_whyNotTry : GoodIn wsX9_drawDay wsX9_whyNotTry := goodIn_r _ [68, 19, 31, 37, 38, 39, 7, 40, 17, 18, 85, 86, 87, 88, 89, 90, 91, 92, 93, 94, 95] (by decide +kernel) (by decide +kernel)
set_option maxRecDepth 20000 in
theorem gX9_drawDay_X9_whyNotTry : GoodIn wsX9_drawDay (wsV RX9 80 RX9 yX9_whyNotTry wsX9_whyNotTry) := goodIn_app (goodIn_of _ (by decide +kernel)) ggX9_drawDay_X9_whyNotTry
set_option maxRecDepth 20000 in
theorem ggX9_drawDay_X9_dropLids : GoodIn wsX9_drawDay wsX9_dropLids := goodIn_r _ [23, 19, 24, 25, 26, 27, 28, 29, 17, 18, 30, 31, 1, 4, 32, 33, 34, 35, 36, 37, 38, 39, 7, 40, 41, 42, 43, 44, 45, 46, 47, 48, 49, 50, 51, 52, 53, 54, 55, 56, 57, 58, 59, 60, 85, 86, 87, 88, 89, 90, 91, 92, 93, 94, 95, 69, 70, 71, 72, 73, 74, 75, 76, 77, 78, 79, 80, 81, 82, 83, 84] (by decide +kernel) (by decide +kernel)
set_option maxRecDepth 20000 in
theorem gX9_drawDay_X9_dropLids : GoodIn wsX9_drawDay (wsV RX9 94 RX9 yX9_dropLids wsX9_dropLids) := goodIn_app (goodIn_of _ (by decide +kernel)) ggX9_drawDay_X9_dropLids
set_option maxRecDepth 20000 in
theorem ggX9_drawDay_X9_letDaysGo : GoodIn wsX9_drawDay wsX9_letDaysGo := goodIn_r _ [64, 27, 32, 33, 34, 35, 18, 31, 85, 86, 87, 88, 89, 90, 91, 92, 93, 94, 95] (by decide +kernel) (by decide +kernel)
set_option maxRecDepth 20000 in
theorem gX9_drawDay_X9_letDaysGo : GoodIn wsX9_drawDay (wsV RX9 98 RX9 yX9_letDaysGo wsX9_letDaysGo) := goodIn_app (goodIn_of _ (by decide +kernel)) ggX9_drawDay_X9_letDaysGo
set_option maxRecDepth 20000 in
theorem ggX11_init_X6_init : GoodIn wsX11_init wsX6_init := goodIn_r _ [51, 52, 2, 3, 43, 53, 151, 152, 153, 154, 155, 156, 157, 158, 159, 160] (by decide +kernel) (by decide +kernel)
set_option maxRecDepth 20000 in
theorem gX11_init_X6_init_n9 : GoodIn wsX11_init (wsX6_init) := ggX11_init_X6_init
set_option maxRecDepth 20000 in
theorem ggX11_init_X5_init : GoodIn wsX11_init wsX5_init := goodIn_r _ [55, 56, 2, 3, 57, 58, 59, 60, 43, 61, 62, 63, 64, 65, 66, 67, 176, 177, 178, 179, 180, 181, 182, 183, 184, 185, 186, 187, 188, 189, 190, 191] (by decide +kernel) (by decide +kernel)
set_option maxRecDepth 20000 in
theorem gX11_init_X5_init_n18 : GoodIn wsX11_init (wsX5_init) := ggX11_init_X5_init
set_option maxRecDepth 20000 in
theorem ggX11_init_X9_init : GoodIn wsX11_init wsX9_init := goodIn_r _ [69, 70, 2, 3, 43, 71, 72, 73, 74, 75, 76, 192, 193, 194, 195, 196, 197, 198, 199, 200, 201, 202] (by decide +kernel) (by decide +kernel)
set_option maxRecDepth 20000 in
theorem gX11_init_X9_init_n25 : GoodIn wsX11_init (wsX9_init) := ggX11_init_X9_init
set_option maxRecDepth 20000 in
theorem ggX11_init_X7_init : GoodIn wsX11_init wsX7_init := goodIn_r _ [78, 79, 2, 3, 80, 81, 43, 82, 83, 84, 203, 204, 205, 206, 207, 208] (by decide +kernel) (by decide +kernel)
set_option maxRecDepth 20000 in
theorem gX11_init_X7_init_n32 : GoodIn wsX11_init (wsX7_init) := ggX11_init_X7_init
set_option maxRecDepth 20000 in
theorem ggX11_init_X2_init : GoodIn wsX11_init wsX2_init := goodIn_r _ [87, 88, 2, 3, 89, 9, 10, 90, 91, 54, 55, 56, 57, 58, 59, 60, 43, 61, 62, 63, 64, 65, 66, 67, 176, 177, 178, 179, 180, 181, 182, 183, 184, 185, 186, 187, 188, 189, 190, 191, 209, 210, 211, 212] (by decide +kernel) (by decide +kernel)
set_option maxRecDepth 20000 in
theorem gX11_init_X2_init : GoodIn wsX11_init (wsX2_init) := ggX11_init_X2_init
set_option maxRecDepth 20000 in
theorem ggX11_init_X1_init : GoodIn wsX11_init wsX1_init := goodIn_r _ [94, 95, 2, 3, 43, 96, 97, 98, 213, 214, 215, 216] (by decide +kernel) (by decide +kernel)
set_option maxRecDepth 20000 in
theorem gX11_init_X1_init : GoodIn wsX11_init (wsX1_init) := ggX11_init_X1_init
set_option maxRecDepth 20000 in
theorem ggX11_init_X8_init : GoodIn wsX11_init wsX8_init := goodIn_r _ [101, 102, 2, 3, 103, 17, 18, 104, 105, 77, 78, 79, 80, 81, 43, 82, 83, 84, 203, 204, 205, 206, 207, 208, 217, 218, 219] (by decide +kernel) (by decide +kernel)
set_option maxRecDepth 20000 in
theorem gX11_init_X8_init : GoodIn wsX11_init (wsX8_init) := ggX11_init_X8_init
set_option maxRecDepth 20000 in
theorem ggX11_init_X0_init : GoodIn wsX11_init wsX0_init := goodIn_r _ [107, 108, 2, 3, 109, 110, 43, 111, 112, 57, 113, 114, 115, 220, 221, 222, 223, 224, 225] (by decide +kernel) (by decide +kernel)
set_option maxRecDepth 20000 in
theorem gX11_init_X0_init_n62 : GoodIn wsX11_init (wsX0_init) := ggX11_init_X0_init
set_option maxRecDepth 20000 in
theorem ggX11_init_X3_init : GoodIn wsX11_init wsX3_init := goodIn_r _ [118, 119, 2, 3, 120, 121, 13, 14, 68, 69, 70, 43, 71, 72, 73, 74, 75, 76, 226, 227, 228, 192, 193, 194, 195, 196, 197, 198, 199, 200, 201, 202] (by decide +kernel) (by decide +kernel)
set_option maxRecDepth 20000 in
theorem gX11_init_X3_init : GoodIn wsX11_init (wsX3_init) := ggX11_init_X3_init
set_option maxRecDepth 20000 in
theorem ggX11_init_X5_empty : GoodIn wsX11_init wsX5_empty := goodIn_r _ [125, 126, 127, 128, 129, 130, 131, 67, 176, 177, 178, 179, 180, 181, 182, 183, 184, 185, 186, 187, 188, 189, 190, 191] (by decide +kernel) (by decide +kernel)
set_option maxRecDepth 20000 in
theorem gX11_init_X5_empty : GoodIn wsX11_init (wsV RX11 94 RX5 yX5_empty wsX5_empty) := goodIn_app (goodIn_of _ (by decide +kernel)) ggX11_init_X5_empty
set_option maxRecDepth 20000 in
theorem ggX11_init_X9_begin : GoodIn wsX11_init wsX9_begin := goodIn_r _ [135, 136, 137, 138, 139, 140, 141, 71, 72, 73, 74, 75, 76, 192, 193, 194, 195, 196, 197, 198, 199, 200, 201, 202, 176, 177, 178, 179, 180, 181, 182, 183, 184, 185, 186, 187, 188, 189, 190, 191] (by decide +kernel) (by decide +kernel)
set_option maxRecDepth 20000 in
theorem gX11_init_X9_begin : GoodIn wsX11_init (wsV RX11 97 RX9 yX9_begin wsX9_begin) := goodIn_app (goodIn_of _ (by decide +kernel)) ggX11_init_X9_begin
set_option maxRecDepth 20000 in
theorem ggX11_init_X4_init : GoodIn wsX11_init wsX4_init := goodIn_r _ [143, 144, 2, 3, 145, 9, 10, 146, 147, 13, 14, 148, 149, 17, 18, 150, 54, 55, 56, 57, 58, 59, 60, 43, 61, 62, 63, 64, 65, 66, 67, 68, 69, 70, 71, 72, 73, 74, 75, 76, 77, 78, 79, 80, 81, 82, 83, 84, 176, 177, 178, 179, 180, 181, 182, 183, 184, 185, 186, 187, 188, 189, 190, 191, 229, 230, 231, 232, 192, 193, 194, 195, 196, 197, 198, 199, 200, 201, 202, 203, 204, 205, 206, 207, 208] (by decide +kernel) (by decide +kernel)
set_option maxRecDepth 20000 in
theorem gX11_init_X4_init_n101 : GoodIn wsX11_init (wsX4_init) := ggX11_init_X4_init
set_option maxRecDepth 20000 in
theorem ggX11_feed_X6_append : GoodIn wsX11_feed wsX6_append := goodIn_r _ [7, 8, 9, 25, 26, 27, 28, 29, 30, 31, 32, 33, 34] (by decide +kernel) (by decide +kernel)
set_option maxRecDepth 20000 in
theorem gX11_feed_X6_append : GoodIn wsX11_feed (wsV RX11 106 RX6 yX6_append wsX6_append) := goodIn_app (goodIn_of _ (by decide +kernel)) ggX11_feed_X6_append
set_option maxRecDepth 20000 in
theorem ggX11_court_X2_readLines : GoodIn wsX11_court wsX2_readLines := goodIn_r _ [15, 16, 17, 18, 19, 20, 21, 22, 23, 24, 25, 26, 27, 28, 29, 30, 31, 32, 33, 34, 35, 36, 37, 38, 39, 40, 41, 42, 43, 44, 45, 46, 47, 48, 49, 50, 51, 52, 53, 54, 55, 56, 57, 58, 59, 60, 61, 62, 63, 64, 65, 66, 67, 68, 69, 70, 71, 72, 73, 14, 74, 75, 76, 77, 78, 79, 80, 81, 82, 83, 84, 85, 86, 87, 88, 89, 90, 91, 92, 93, 94, 95, 96, 97, 98, 99, 100, 101, 102, 103, 104, 105, 106, 107, 108, 109, 110, 111, 112, 113, 114, 115, 116, 117, 118, 119, 120, 121, 122, 123, 124, 125, 126, 127, 128, 129, 130, 131, 132, 133, 134, 135, 136, 137, 138, 139, 140, 141, 142, 143, 144, 145, 146, 147, 148, 149, 150, 151, 152, 153, 154, 155, 156, 157, 158, 159, 160, 161, 162, 163, 164, 165, 166, 167, 168, 169, 170, 171, 172, 173, 174, 175, 176, 177, 178, 179, 180, 181, 182, 183, 184, 185, 186, 187, 188, 189, 190, 191, 255, 256, 257, 258, 265, 266, 267, 268, 269, 270, 271, 272, 273, 274, 275, 276, 277, 278, 279, 280, 245, 246, 247, 248, 249, 250, 251, 252, 253, 254] (by decide +kernel) (by decide +kernel)
set_option maxRecDepth 20000 in
theorem gX11_court_X2_readLines : GoodIn wsX11_court (wsV RX11 110 RX2 yX2_readLines wsX2_readLines) := goodIn_app (goodIn_of _ (by decide +kernel)) ggX11_court_X2_readLines
set_option maxRecDepth 20000 in
theorem ggX11_court_X6_isBroken : GoodIn wsX11_court wsX6_isBroken := goodIn_r _ [57, 39, 245, 246, 247, 248, 249, 250, 251, 252, 253, 254] (by decide +kernel) (by decide +kernel)
set_option maxRecDepth 20000 in
theorem gX11_court_X6_isBroken : GoodIn wsX11_court (wsV RX11 114 RX6 yX6_isBroken wsX6_isBroken) := goodIn_app (goodIn_of _ (by decide +kernel)) ggX11_court_X6_isBroken
set_option maxRecDepth 20000 in
theorem ggX11_court_X5_copyFrom : GoodIn wsX11_court wsX5_copyFrom := goodIn_r _ [196, 25, 26, 27, 28, 29, 30, 111, 197, 198, 199, 200, 119, 124, 201, 202, 203, 204, 205, 206, 31, 265, 266, 267, 268, 269, 270, 271, 272, 273, 274, 275, 276, 277, 278, 279, 280] (by decide +kernel) (by decide +kernel)
set_option maxRecDepth 20000 in
theorem gX11_court_X5_copyFrom : GoodIn wsX11_court (wsV RX11 124 RX5 yX5_copyFrom wsX5_copyFrom) := goodIn_app (goodIn_of _ (by decide +kernel)) ggX11_court_X5_copyFrom
set_option maxRecDepth 20000 in
theorem ggX11_court_X9_begin : GoodIn wsX11_court wsX9_begin := goodIn_r _ [211, 212, 213, 214, 215, 216, 217, 218, 219, 220, 221, 222, 223, 281, 282, 283, 284, 285, 286, 287, 288, 289, 290, 291, 265, 266, 267, 268, 269, 270, 271, 272, 273, 274, 275, 276, 277, 278, 279, 280] (by decide +kernel) (by decide +kernel)
set_option maxRecDepth 20000 in
theorem gX11_court_X9_begin : GoodIn wsX11_court (wsV RX11 97 RX9 yX9_begin wsX9_begin) := goodIn_app (goodIn_of _ (by decide +kernel)) ggX11_court_X9_begin
set_option maxRecDepth 20000 in
theorem ggX11_court_X3_forget : GoodIn wsX11_court wsX3_forget := goodIn_r _ [228, 229, 292, 293, 294] (by decide +kernel) (by decide +kernel)
set_option maxRecDepth 20000 in
theorem gX11_court_X3_forget : GoodIn wsX11_court (wsV RX11 131 RX3 yX3_forget wsX3_forget) := goodIn_app (goodIn_of _ (by decide +kernel)) ggX11_court_X3_forget
set_option maxRecDepth 20000 in
theorem ggX11_juror_X11_isJuror : GoodIn wsX11_juror wsX11_isJuror := goodIn_r _ [16, 3, 17, 18, 19, 20, 21, 22, 23, 24, 25, 26, 27, 28, 29, 30, 31, 32, 33, 34, 35, 36, 37, 38, 39, 40, 41, 42, 43, 44, 45, 46, 47, 48] (by decide +kernel) (by decide +kernel)
set_option maxRecDepth 20000 in
theorem gX11_juror_X11_isJuror : GoodIn wsX11_juror (wsV RX11 137 RX11 yX11_isJuror wsX11_isJuror) := goodIn_app (goodIn_of _ (by decide +kernel)) ggX11_juror_X11_isJuror
set_option maxRecDepth 20000 in
theorem ggX11_trial_X11_isCase : GoodIn wsX11_trial wsX11_isCase := goodIn_r _ [14, 3, 15, 16, 17, 18, 19, 20, 21, 22, 23, 24, 25, 26, 27, 28, 29, 30, 31, 32, 33, 34, 35, 36, 37, 38, 39, 40, 41, 42, 43, 44, 45, 46] (by decide +kernel) (by decide +kernel)
set_option maxRecDepth 20000 in
theorem gX11_trial_X11_isCase : GoodIn wsX11_trial (wsV RX11 164 RX11 yX11_isCase wsX11_isCase) := goodIn_app (goodIn_of _ (by decide +kernel)) ggX11_trial_X11_isCase
set_option maxRecDepth 20000 in
theorem ggX11_ring_X11_isJuror : GoodIn wsX11_ring wsX11_isJuror := goodIn_r _ [7, 2, 8, 33, 34, 35, 36, 37, 38, 39, 40, 41, 42, 43, 44, 45, 46, 47, 48, 49, 50, 51, 52, 53, 54, 55, 56, 57, 58, 59, 60, 61, 62, 63] (by decide +kernel) (by decide +kernel)
set_option maxRecDepth 20000 in
theorem gX11_ring_X11_isJuror : GoodIn wsX11_ring (wsV RX11 137 RX11 yX11_isJuror wsX11_isJuror) := goodIn_app (goodIn_of _ (by decide +kernel)) ggX11_ring_X11_isJuror
set_option maxRecDepth 20000 in
theorem ggX11_ring_X11_isFloor : GoodIn wsX11_ring wsX11_isFloor := goodIn_r _ [12, 2, 13, 33, 34, 35, 36, 37, 38, 39, 40, 41, 42, 43, 44, 45, 46, 47, 48, 49, 50, 51, 52, 53, 54, 55, 56, 57, 58, 59, 60, 61, 62, 63] (by decide +kernel) (by decide +kernel)
set_option maxRecDepth 20000 in
theorem gX11_ring_X11_isFloor : GoodIn wsX11_ring (wsV RX11 182 RX11 yX11_isFloor wsX11_isFloor) := goodIn_app (goodIn_of _ (by decide +kernel)) ggX11_ring_X11_isFloor
set_option maxRecDepth 20000 in
theorem ggX11_ring_X9_ringOf : GoodIn wsX11_ring wsX9_ringOf := goodIn_r _ [18, 19, 20, 21, 22, 23, 24, 25, 26, 27, 28, 29, 30, 31, 32, 48, 49, 50, 51, 52, 53, 54, 55, 56, 57, 58, 59, 60, 61, 62, 63, 64, 65, 66, 67, 68, 69, 70, 71, 72, 73, 74] (by decide +kernel) (by decide +kernel)
set_option maxRecDepth 20000 in
theorem gX11_ring_X9_ringOf : GoodIn wsX11_ring (wsV RX11 185 RX9 yX9_ringOf wsX9_ringOf) := goodIn_app (goodIn_of _ (by decide +kernel)) ggX11_ring_X9_ringOf
set_option maxRecDepth 20000 in
theorem ggX11_lasts_X11_isJuror : GoodIn wsX11_lasts wsX11_isJuror := goodIn_r _ [6, 1, 7, 24, 25, 26, 27, 28, 29, 30, 31, 32, 33, 34, 35, 36, 37, 38, 39, 40, 41, 42, 43, 44, 45, 46, 47, 48, 49, 50, 51, 52, 53, 54] (by decide +kernel) (by decide +kernel)
set_option maxRecDepth 20000 in
theorem gX11_lasts_X11_isJuror : GoodIn wsX11_lasts (wsV RX11 137 RX11 yX11_isJuror wsX11_isJuror) := goodIn_app (goodIn_of _ (by decide +kernel)) ggX11_lasts_X11_isJuror
set_option maxRecDepth 20000 in
theorem ggX11_lasts_X11_isFloor : GoodIn wsX11_lasts wsX11_isFloor := goodIn_r _ [11, 1, 12, 24, 25, 26, 27, 28, 29, 30, 31, 32, 33, 34, 35, 36, 37, 38, 39, 40, 41, 42, 43, 44, 45, 46, 47, 48, 49, 50, 51, 52, 53, 54] (by decide +kernel) (by decide +kernel)
set_option maxRecDepth 20000 in
theorem gX11_lasts_X11_isFloor : GoodIn wsX11_lasts (wsV RX11 182 RX11 yX11_isFloor wsX11_isFloor) := goodIn_app (goodIn_of _ (by decide +kernel)) ggX11_lasts_X11_isFloor
set_option maxRecDepth 20000 in
theorem ggX11_lasts_X5_lastsOf : GoodIn wsX11_lasts wsX5_lastsOf := goodIn_r _ [17, 18, 19, 20, 21, 22, 23, 39, 40, 41, 42, 43, 44, 45, 46, 47, 48, 49, 50, 51, 52, 53, 54] (by decide +kernel) (by decide +kernel)
set_option maxRecDepth 20000 in
theorem gX11_lasts_X5_lastsOf : GoodIn wsX11_lasts (wsV RX11 189 RX5 yX5_lastsOf wsX5_lastsOf) := goodIn_app (goodIn_of _ (by decide +kernel)) ggX11_lasts_X5_lastsOf
set_option maxRecDepth 20000 in
theorem ggX11_now_X9_casesThatAre : GoodIn wsX11_now wsX9_casesThatAre := goodIn_r _ [11, 12, 33, 34, 35, 36, 37, 38, 39, 40, 41, 42, 43] (by decide +kernel) (by decide +kernel)
set_option maxRecDepth 20000 in
theorem gX11_now_X9_casesThatAre : GoodIn wsX11_now (wsV RX11 196 RX9 yX9_casesThatAre wsX9_casesThatAre) := goodIn_app (goodIn_of _ (by decide +kernel)) ggX11_now_X9_casesThatAre
set_option maxRecDepth 20000 in
theorem ggX11_now_X9_allDents : GoodIn wsX11_now wsX9_allDents := goodIn_r _ [16, 17, 33, 34, 35, 36, 37, 38, 39, 40, 41, 42, 43] (by decide +kernel) (by decide +kernel)
set_option maxRecDepth 20000 in
theorem gX11_now_X9_allDents : GoodIn wsX11_now (wsV RX11 200 RX9 yX9_allDents wsX9_allDents) := goodIn_app (goodIn_of _ (by decide +kernel)) ggX11_now_X9_allDents
set_option maxRecDepth 20000 in
theorem ggX11_sit_X11_isJuror : GoodIn wsX11_sit wsX11_isJuror := goodIn_r _ [5, 6, 7, 102, 103, 104, 105, 106, 107, 108, 109, 110, 111, 112, 113, 114, 115, 116, 117, 118, 119, 120, 121, 122, 123, 124, 125, 126, 127, 128, 129, 130, 131, 132] (by decide +kernel) (by decide +kernel)
set_option maxRecDepth 20000 in
theorem gX11_sit_X11_isJuror : GoodIn wsX11_sit (wsV RX11 137 RX11 yX11_isJuror wsX11_isJuror) := goodIn_app (goodIn_of _ (by decide +kernel)) ggX11_sit_X11_isJuror
set_option maxRecDepth 20000 in
theorem ggX11_sit_X11_act : GoodIn wsX11_sit wsX11_act := goodIn_r _ [11, 12, 13, 6, 14, 15, 16, 17, 18, 19, 20, 21, 22, 23, 24, 25, 26, 27, 28, 29, 30, 31, 32, 33, 34, 35, 36, 37, 38, 39, 40, 41, 42, 43, 44, 45, 46, 47, 48, 49, 50, 51, 52, 53, 54, 55, 56, 57, 58, 59, 60, 61, 62, 63, 64, 65, 66, 67, 68, 69, 70, 71, 72, 73, 74, 75, 76, 77, 78, 79, 80, 81, 82, 83, 84, 85, 86, 87, 88, 89, 90, 91, 92, 93, 94, 95, 96, 97, 98, 99, 100, 101, 102, 103, 104, 105, 106, 107, 108, 109, 110, 111, 112, 113, 114, 115, 116, 133, 134, 135, 136, 137, 138, 139, 140, 141, 142, 143, 144, 145, 146, 117, 118, 119, 120, 121, 122, 123, 124, 125, 126, 127, 128, 129, 130, 131, 132] (by decide +kernel) (by decide +kernel)
set_option maxRecDepth 20000 in
theorem gX11_sit_X11_act : GoodIn wsX11_sit (wsV RX11 209 RX11 yX11_act wsX11_act) := goodIn_app (goodIn_of _ (by decide +kernel)) ggX11_sit_X11_act
set_option maxRecDepth 20000 in
theorem ggX11_rise_X11_isJuror : GoodIn wsX11_rise wsX11_isJuror := goodIn_r _ [5, 6, 7, 102, 103, 104, 105, 106, 107, 108, 109, 110, 111, 112, 113, 114, 115, 116, 117, 118, 119, 120, 121, 122, 123, 124, 125, 126, 127, 128, 129, 130, 131, 132] (by decide +kernel) (by decide +kernel)
set_option maxRecDepth 20000 in
theorem gX11_rise_X11_isJuror : GoodIn wsX11_rise (wsV RX11 137 RX11 yX11_isJuror wsX11_isJuror) := goodIn_app (goodIn_of _ (by decide +kernel)) ggX11_rise_X11_isJuror
set_option maxRecDepth 20000 in
theorem ggX11_rise_X11_act : GoodIn wsX11_rise wsX11_act := goodIn_r _ [11, 12, 13, 6, 14, 15, 16, 17, 18, 19, 20, 21, 22, 23, 24, 25, 26, 27, 28, 29, 30, 31, 32, 33, 34, 35, 36, 37, 38, 39, 40, 41, 42, 43, 44, 45, 46, 47, 48, 49, 50, 51, 52, 53, 54, 55, 56, 57, 58, 59, 60, 61, 62, 63, 64, 65, 66, 67, 68, 69, 70, 71, 72, 73, 74, 75, 76, 77, 78, 79, 80, 81, 82, 83, 84, 85, 86, 87, 88, 89, 90, 91, 92, 93, 94, 95, 96, 97, 98, 99, 100, 101, 102, 103, 104, 105, 106, 107, 108, 109, 110, 111, 112, 113, 114, 115, 116, 133, 134, 135, 136, 137, 138, 139, 140, 141, 142, 143, 144, 145, 146, 117, 118, 119, 120, 121, 122, 123, 124, 125, 126, 127, 128, 129, 130, 131, 132] (by decide +kernel) (by decide +kernel)
set_option maxRecDepth 20000 in
theorem gX11_rise_X11_act : GoodIn wsX11_rise (wsV RX11 209 RX11 yX11_act wsX11_act) := goodIn_app (goodIn_of _ (by decide +kernel)) ggX11_rise_X11_act
set_option maxRecDepth 20000 in
theorem ggX11_hold_X11_isJuror : GoodIn wsX11_hold wsX11_isJuror := goodIn_r _ [5, 6, 7, 102, 103, 104, 105, 106, 107, 108, 109, 110, 111, 112, 113, 114, 115, 116, 117, 118, 119, 120, 121, 122, 123, 124, 125, 126, 127, 128, 129, 130, 131, 132] (by decide +kernel) (by decide +kernel)
set_option maxRecDepth 20000 in
theorem gX11_hold_X11_isJuror : GoodIn wsX11_hold (wsV RX11 137 RX11 yX11_isJuror wsX11_isJuror) := goodIn_app (goodIn_of _ (by decide +kernel)) ggX11_hold_X11_isJuror
set_option maxRecDepth 20000 in
theorem ggX11_hold_X11_act : GoodIn wsX11_hold wsX11_act := goodIn_r _ [11, 12, 13, 6, 14, 15, 16, 17, 18, 19, 20, 21, 22, 23, 24, 25, 26, 27, 28, 29, 30, 31, 32, 33, 34, 35, 36, 37, 38, 39, 40, 41, 42, 43, 44, 45, 46, 47, 48, 49, 50, 51, 52, 53, 54, 55, 56, 57, 58, 59, 60, 61, 62, 63, 64, 65, 66, 67, 68, 69, 70, 71, 72, 73, 74, 75, 76, 77, 78, 79, 80, 81, 82, 83, 84, 85, 86, 87, 88, 89, 90, 91, 92, 93, 94, 95, 96, 97, 98, 99, 100, 101, 102, 103, 104, 105, 106, 107, 108, 109, 110, 111, 112, 113, 114, 115, 116, 133, 134, 135, 136, 137, 138, 139, 140, 141, 142, 143, 144, 145, 146, 117, 118, 119, 120, 121, 122, 123, 124, 125, 126, 127, 128, 129, 130, 131, 132] (by decide +kernel) (by decide +kernel)
set_option maxRecDepth 20000 in
theorem gX11_hold_X11_act : GoodIn wsX11_hold (wsV RX11 209 RX11 yX11_act wsX11_act) := goodIn_app (goodIn_of _ (by decide +kernel)) ggX11_hold_X11_act
set_option maxRecDepth 20000 in
theorem ggX11_drop_X11_isJuror : GoodIn wsX11_drop wsX11_isJuror := goodIn_r _ [5, 6, 7, 102, 103, 104, 105, 106, 107, 108, 109, 110, 111, 112, 113, 114, 115, 116, 117, 118, 119, 120, 121, 122, 123, 124, 125, 126, 127, 128, 129, 130, 131, 132] (by decide +kernel) (by decide +kernel)
set_option maxRecDepth 20000 in
theorem gX11_drop_X11_isJuror : GoodIn wsX11_drop (wsV RX11 137 RX11 yX11_isJuror wsX11_isJuror) := goodIn_app (goodIn_of _ (by decide +kernel)) ggX11_drop_X11_isJuror
set_option maxRecDepth 20000 in
theorem ggX11_drop_X11_act : GoodIn wsX11_drop wsX11_act := goodIn_r _ [11, 12, 13, 6, 14, 15, 16, 17, 18, 19, 20, 21, 22, 23, 24, 25, 26, 27, 28, 29, 30, 31, 32, 33, 34, 35, 36, 37, 38, 39, 40, 41, 42, 43, 44, 45, 46, 47, 48, 49, 50, 51, 52, 53, 54, 55, 56, 57, 58, 59, 60, 61, 62, 63, 64, 65, 66, 67, 68, 69, 70, 71, 72, 73, 74, 75, 76, 77, 78, 79, 80, 81, 82, 83, 84, 85, 86, 87, 88, 89, 90, 91, 92, 93, 94, 95, 96, 97, 98, 99, 100, 101, 102, 103, 104, 105, 106, 107, 108, 109, 110, 111, 112, 113, 114, 115, 116, 133, 134, 135, 136, 137, 138, 139, 140, 141, 142, 143, 144, 145, 146, 117, 118, 119, 120, 121, 122, 123, 124, 125, 126, 127, 128, 129, 130, 131, 132] (by decide +kernel) (by decide +kernel)
set_option maxRecDepth 20000 in
theorem gX11_drop_X11_act : GoodIn wsX11_drop (wsV RX11 209 RX11 yX11_act wsX11_act) := goodIn_app (goodIn_of _ (by decide +kernel)) ggX11_drop_X11_act
set_option maxRecDepth 20000 in
theorem ggX11_beat_X11_isJuror : GoodIn wsX11_beat wsX11_isJuror := goodIn_r _ [5, 6, 7, 102, 103, 104, 105, 106, 107, 108, 109, 110, 111, 112, 113, 114, 115, 116, 117, 118, 119, 120, 121, 122, 123, 124, 125, 126, 127, 128, 129, 130, 131, 132] (by decide +kernel) (by decide +kernel)
set_option maxRecDepth 20000 in
theorem gX11_beat_X11_isJuror : GoodIn wsX11_beat (wsV RX11 137 RX11 yX11_isJuror wsX11_isJuror) := goodIn_app (goodIn_of _ (by decide +kernel)) ggX11_beat_X11_isJuror
set_option maxRecDepth 20000 in
theorem ggX11_beat_X11_act : GoodIn wsX11_beat wsX11_act := goodIn_r _ [11, 12, 13, 6, 14, 15, 16, 17, 18, 19, 20, 21, 22, 23, 24, 25, 26, 27, 28, 29, 30, 31, 32, 33, 34, 35, 36, 37, 38, 39, 40, 41, 42, 43, 44, 45, 46, 47, 48, 49, 50, 51, 52, 53, 54, 55, 56, 57, 58, 59, 60, 61, 62, 63, 64, 65, 66, 67, 68, 69, 70, 71, 72, 73, 74, 75, 76, 77, 78, 79, 80, 81, 82, 83, 84, 85, 86, 87, 88, 89, 90, 91, 92, 93, 94, 95, 96, 97, 98, 99, 100, 101, 102, 103, 104, 105, 106, 107, 108, 109, 110, 111, 112, 113, 114, 115, 116, 133, 134, 135, 136, 137, 138, 139, 140, 141, 142, 143, 144, 145, 146, 117, 118, 119, 120, 121, 122, 123, 124, 125, 126, 127, 128, 129, 130, 131, 132] (by decide +kernel) (by decide +kernel)
set_option maxRecDepth 20000 in
theorem gX11_beat_X11_act : GoodIn wsX11_beat (wsV RX11 209 RX11 yX11_act wsX11_act) := goodIn_app (goodIn_of _ (by decide +kernel)) ggX11_beat_X11_act
set_option maxRecDepth 20000 in
theorem ggX11_tryCase_X11_isCase : GoodIn wsX11_tryCase wsX11_isCase := goodIn_r _ [5, 6, 7, 102, 103, 104, 105, 106, 107, 108, 109, 110, 111, 112, 113, 114, 115, 116, 117, 118, 119, 120, 121, 122, 123, 124, 125, 126, 127, 128, 129, 130, 131, 132] (by decide +kernel) (by decide +kernel)
set_option maxRecDepth 20000 in
theorem gX11_tryCase_X11_isCase : GoodIn wsX11_tryCase (wsV RX11 164 RX11 yX11_isCase wsX11_isCase) := goodIn_app (goodIn_of _ (by decide +kernel)) ggX11_tryCase_X11_isCase
set_option maxRecDepth 20000 in
theorem ggX11_tryCase_X11_act : GoodIn wsX11_tryCase wsX11_act := goodIn_r _ [11, 12, 13, 6, 14, 15, 16, 17, 18, 19, 20, 21, 22, 23, 24, 25, 26, 27, 28, 29, 30, 31, 32, 33, 34, 35, 36, 37, 38, 39, 40, 41, 42, 43, 44, 45, 46, 47, 48, 49, 50, 51, 52, 53, 54, 55, 56, 57, 58, 59, 60, 61, 62, 63, 64, 65, 66, 67, 68, 69, 70, 71, 72, 73, 74, 75, 76, 77, 78, 79, 80, 81, 82, 83, 84, 85, 86, 87, 88, 89, 90, 91, 92, 93, 94, 95, 96, 97, 98, 99, 100, 101, 102, 103, 104, 105, 106, 107, 108, 109, 110, 111, 112, 113, 114, 115, 116, 133, 134, 135, 136, 137, 138, 139, 140, 141, 142, 143, 144, 145, 146, 117, 118, 119, 120, 121, 122, 123, 124, 125, 126, 127, 128, 129, 130, 131, 132] (by decide +kernel) (by decide +kernel)
set_option maxRecDepth 20000 in
theorem gX11_tryCase_X11_act : GoodIn wsX11_tryCase (wsV RX11 209 RX11 yX11_act wsX11_act) := goodIn_app (goodIn_of _ (by decide +kernel)) ggX11_tryCase_X11_act
set_option maxRecDepth 20000 in
theorem ggX11_appeal_X11_isCase : GoodIn wsX11_appeal wsX11_isCase := goodIn_r _ [5, 6, 7, 102, 103, 104, 105, 106, 107, 108, 109, 110, 111, 112, 113, 114, 115, 116, 117, 118, 119, 120, 121, 122, 123, 124, 125, 126, 127, 128, 129, 130, 131, 132] (by decide +kernel) (by decide +kernel)
set_option maxRecDepth 20000 in
theorem gX11_appeal_X11_isCase : GoodIn wsX11_appeal (wsV RX11 164 RX11 yX11_isCase wsX11_isCase) := goodIn_app (goodIn_of _ (by decide +kernel)) ggX11_appeal_X11_isCase
set_option maxRecDepth 20000 in
theorem ggX11_appeal_X11_act : GoodIn wsX11_appeal wsX11_act := goodIn_r _ [11, 12, 13, 6, 14, 15, 16, 17, 18, 19, 20, 21, 22, 23, 24, 25, 26, 27, 28, 29, 30, 31, 32, 33, 34, 35, 36, 37, 38, 39, 40, 41, 42, 43, 44, 45, 46, 47, 48, 49, 50, 51, 52, 53, 54, 55, 56, 57, 58, 59, 60, 61, 62, 63, 64, 65, 66, 67, 68, 69, 70, 71, 72, 73, 74, 75, 76, 77, 78, 79, 80, 81, 82, 83, 84, 85, 86, 87, 88, 89, 90, 91, 92, 93, 94, 95, 96, 97, 98, 99, 100, 101, 102, 103, 104, 105, 106, 107, 108, 109, 110, 111, 112, 113, 114, 115, 116, 133, 134, 135, 136, 137, 138, 139, 140, 141, 142, 143, 144, 145, 146, 117, 118, 119, 120, 121, 122, 123, 124, 125, 126, 127, 128, 129, 130, 131, 132] (by decide +kernel) (by decide +kernel)
set_option maxRecDepth 20000 in
theorem gX11_appeal_X11_act : GoodIn wsX11_appeal (wsV RX11 209 RX11 yX11_act wsX11_act) := goodIn_app (goodIn_of _ (by decide +kernel)) ggX11_appeal_X11_act
set_option maxRecDepth 20000 in
theorem ggX11_days_X9_daysLeft : GoodIn wsX11_days wsX9_daysLeft := goodIn_r _ [10, 11, 114, 115, 116, 117, 118, 119, 120, 121, 122, 123, 124] (by decide +kernel) (by decide +kernel)
set_option maxRecDepth 20000 in
theorem gX11_days_X9_daysLeft : GoodIn wsX11_days (wsV RX11 212 RX9 yX9_daysLeft wsX9_daysLeft) := goodIn_app (goodIn_of _ (by decide +kernel)) ggX11_days_X9_daysLeft
set_option maxRecDepth 20000 in
theorem ggX11_days_X11_act : GoodIn wsX11_days wsX11_act := goodIn_r _ [16, 1, 17, 18, 19, 20, 21, 9, 22, 23, 24, 25, 26, 27, 28, 29, 30, 31, 32, 33, 34, 35, 36, 37, 38, 39, 40, 41, 7, 8, 10, 11, 42, 43, 44, 45, 46, 47, 48, 49, 50, 3, 4, 5, 51, 52, 53, 54, 55, 56, 57, 58, 59, 60, 61, 62, 63, 64, 65, 66, 67, 68, 69, 70, 71, 72, 73, 74, 75, 76, 77, 78, 79, 80, 81, 82, 83, 84, 85, 86, 87, 88, 89, 90, 91, 92, 93, 94, 95, 96, 97, 98, 99, 100, 101, 102, 103, 104, 105, 106, 107, 108, 109, 110, 111, 112, 113, 114, 115, 116, 117, 118, 119, 120, 121, 122, 123, 124, 125, 126, 127, 128, 129, 130, 131, 132, 133, 134, 135, 136, 137, 138, 139, 140, 141, 142, 143] (by decide +kernel) (by decide +kernel)
set_option maxRecDepth 20000 in
theorem gX11_days_X11_act : GoodIn wsX11_days (wsV RX11 209 RX11 yX11_act wsX11_act) := goodIn_app (goodIn_of _ (by decide +kernel)) ggX11_days_X11_act
set_option maxRecDepth 20000 in
theorem ggX11_undo_X3_takeBack : GoodIn wsX11_undo wsX3_takeBack := goodIn_r _ [8, 9, 10, 11, 12, 13, 14, 15, 16, 17, 18, 19, 20, 21, 22, 23, 24, 25, 26, 27, 28, 29, 30, 31, 47, 48, 49, 50, 51, 52, 53, 54, 55, 56, 57, 58, 59, 60] (by decide +kernel) (by decide +kernel)
set_option maxRecDepth 20000 in
theorem gX11_undo_X3_takeBack : GoodIn wsX11_undo (wsV RX11 223 RX3 yX3_takeBack wsX3_takeBack) := goodIn_app (goodIn_of _ (by decide +kernel)) ggX11_undo_X3_takeBack
set_option maxRecDepth 20000 in
theorem ggX11_verdict_X11_spread : GoodIn wsX11_verdict wsX11_spread := goodIn_r _ [7, 8, 1, 9, 10, 11, 12, 13, 14, 15, 16, 17, 18, 19, 6, 20, 21, 22, 23, 24, 25, 26, 27, 28, 29, 30, 31, 32, 33, 34, 35, 36, 37, 38, 39, 40, 41, 42, 43, 44, 45, 46, 47, 48, 49, 50, 51, 52, 53, 54, 55, 56, 57, 58, 59, 60, 61, 62, 63, 64, 65, 66, 67, 68, 69, 70, 71, 72, 73, 74, 75, 76, 77, 78, 79, 80, 81, 82, 83, 84, 85, 86, 87, 88, 89] (by decide +kernel) (by decide +kernel)
set_option maxRecDepth 20000 in
theorem gX11_verdict_X11_spread : GoodIn wsX11_verdict (wsV RX11 227 RX11 yX11_spread wsX11_spread) := goodIn_app (goodIn_of _ (by decide +kernel)) ggX11_verdict_X11_spread
set_option maxRecDepth 20000 in
theorem ggX11_spread_X9_droppers : GoodIn wsX11_spread wsX9_droppers := goodIn_r _ [8, 9, 10, 74, 75, 76, 77, 78, 79, 80, 81, 82, 83, 84] (by decide +kernel) (by decide +kernel)
set_option maxRecDepth 20000 in
theorem gX11_spread_X9_droppers : GoodIn wsX11_spread (wsV RX11 233 RX9 yX9_droppers wsX9_droppers) := goodIn_app (goodIn_of _ (by decide +kernel)) ggX11_spread_X9_droppers
set_option maxRecDepth 20000 in
theorem ggX11_spread_X11_isCase : GoodIn wsX11_spread wsX11_isCase := goodIn_r _ [15, 2, 16, 43, 44, 45, 46, 47, 48, 49, 50, 51, 52, 53, 54, 55, 56, 57, 58, 59, 60, 61, 62, 63, 64, 65, 66, 67, 68, 69, 70, 71, 72, 73] (by decide +kernel) (by decide +kernel)
set_option maxRecDepth 20000 in
theorem gX11_spread_X11_isCase : GoodIn wsX11_spread (wsV RX11 164 RX11 yX11_isCase wsX11_isCase) := goodIn_app (goodIn_of _ (by decide +kernel)) ggX11_spread_X11_isCase
set_option maxRecDepth 20000 in
theorem ggX11_spread_X9_apart : GoodIn wsX11_spread wsX9_apart := goodIn_r _ [20, 21, 22, 23, 24, 25, 26, 27, 28, 29, 30, 31, 32, 33, 34, 35, 36, 37, 38, 39, 7, 40, 41, 42, 58, 59, 60, 61, 62, 63, 64, 65, 66, 67, 68, 69, 70, 71, 72, 73, 74, 75, 76, 77, 78, 79, 80, 81, 82, 83, 84] (by decide +kernel) (by decide +kernel)
set_option maxRecDepth 20000 in
theorem gX11_spread_X9_apart : GoodIn wsX11_spread (wsV RX11 236 RX9 yX9_apart wsX9_apart) := goodIn_app (goodIn_of _ (by decide +kernel)) ggX11_spread_X9_apart
set_option maxRecDepth 20000 in
theorem ggX11_longest_X9_droppers : GoodIn wsX11_longest wsX9_droppers := goodIn_r _ [13, 14, 15, 61, 62, 63, 64, 65, 66, 67, 68, 69, 70, 71] (by decide +kernel) (by decide +kernel)
set_option maxRecDepth 20000 in
theorem gX11_longest_X9_droppers : GoodIn wsX11_longest (wsV RX11 233 RX9 yX9_droppers wsX9_droppers) := goodIn_app (goodIn_of _ (by decide +kernel)) ggX11_longest_X9_droppers
set_option maxRecDepth 20000 in
theorem ggX11_longest_X11_isCase : GoodIn wsX11_longest wsX11_isCase := goodIn_r _ [20, 2, 21, 30, 31, 32, 33, 34, 35, 36, 37, 38, 39, 40, 41, 42, 43, 44, 45, 46, 47, 48, 49, 50, 51, 52, 53, 54, 55, 56, 57, 58, 59, 60] (by decide +kernel) (by decide +kernel)
set_option maxRecDepth 20000 in
theorem gX11_longest_X11_isCase : GoodIn wsX11_longest (wsV RX11 164 RX11 yX11_isCase wsX11_isCase) := goodIn_app (goodIn_of _ (by decide +kernel)) ggX11_longest_X11_isCase
set_option maxRecDepth 20000 in
theorem ggX11_longest_X5_lastsOf : GoodIn wsX11_longest wsX5_lastsOf := goodIn_r _ [26, 27, 28, 29, 6, 7, 8, 45, 46, 47, 48, 49, 50, 51, 52, 53, 54, 55, 56, 57, 58, 59, 60] (by decide +kernel) (by decide +kernel)
set_option maxRecDepth 20000 in
theorem gX11_longest_X5_lastsOf : GoodIn wsX11_longest (wsV RX11 189 RX5 yX5_lastsOf wsX5_lastsOf) := goodIn_app (goodIn_of _ (by decide +kernel)) ggX11_longest_X5_lastsOf
set_option maxRecDepth 20000 in
theorem ggX11_agree_X11_isFloor : GoodIn wsX11_agree wsX11_isFloor := goodIn_r _ [10, 1, 11, 64, 65, 66, 67, 68, 69, 70, 71, 72, 73, 74, 75, 76, 77, 78, 79, 80, 81, 82, 83, 84, 85, 86, 87, 88, 89, 90, 91, 92, 93, 94] (by decide +kernel) (by decide +kernel)
set_option maxRecDepth 20000 in
theorem gX11_agree_X11_isFloor : GoodIn wsX11_agree (wsV RX11 182 RX11 yX11_isFloor wsX11_isFloor) := goodIn_app (goodIn_of _ (by decide +kernel)) ggX11_agree_X11_isFloor
set_option maxRecDepth 20000 in
theorem ggX11_agree_X0_measure : GoodIn wsX11_agree wsX0_measure := goodIn_r _ [16, 17, 18, 19, 20, 21, 22, 23, 24, 25, 26, 27, 28, 29, 30, 31, 32, 33, 34, 35, 36, 37, 38, 39, 40, 41, 42, 43, 44, 45, 46, 47, 79, 80, 81, 82, 83, 84, 85, 86, 87, 88, 89, 90, 91, 92, 93, 94, 95, 96, 97, 98, 99, 100, 101, 102, 103, 104, 105, 106, 107, 108, 109, 110, 111] (by decide +kernel) (by decide +kernel)
set_option maxRecDepth 20000 in
theorem gX11_agree_X0_measure : GoodIn wsX11_agree (wsV RX11 246 RX0 yX0_measure wsX0_measure) := goodIn_app (goodIn_of _ (by decide +kernel)) ggX11_agree_X0_measure
set_option maxRecDepth 20000 in
theorem ggX11_agree_X0_mostInOneRing : GoodIn wsX11_agree wsX0_mostInOneRing := goodIn_r _ [51, 17, 52, 53, 54, 55, 15, 56, 19, 18, 57, 58, 29, 59, 60, 61, 62, 79, 80, 81, 82, 83, 84, 85, 86, 87, 88, 89, 90, 91, 92, 93, 94, 95, 96, 97, 98, 99, 100] (by decide +kernel) (by decide +kernel)
set_option maxRecDepth 20000 in
theorem gX11_agree_X0_mostInOneRing : GoodIn wsX11_agree (wsV RX11 250 RX0 yX0_mostInOneRing wsX0_mostInOneRing) := goodIn_app (goodIn_of _ (by decide +kernel)) ggX11_agree_X0_mostInOneRing
set_option maxRecDepth 20000 in
theorem ggX11_agree_J6_bitCount_0f7a4 : GoodIn wsX11_agree wsJ6_bitCount_0f7a4 := goodIn_r _ [59, 60, 61, 62] (by decide +kernel) (by decide +kernel)
set_option maxRecDepth 20000 in
theorem gX11_agree_J6_bitCount_0f7a4 : GoodIn wsX11_agree (va_wsS RX11 254 yJ6_bitCount_0f7a4 wsJ6_bitCount_0f7a4) := goodIn_app (goodIn_of _ (by decide +kernel)) ggX11_agree_J6_bitCount_0f7a4
set_option maxRecDepth 20000 in
theorem ggX11_jury_X11_isCase : GoodIn wsX11_jury wsX11_isCase := goodIn_r _ [11, 1, 12, 64, 65, 66, 67, 68, 69, 70, 71, 72, 73, 74, 75, 76, 77, 78, 79, 80, 81, 82, 83, 84, 85, 86, 87, 88, 89, 90, 91, 92, 93, 94] (by decide +kernel) (by decide +kernel)
set_option maxRecDepth 20000 in
theorem gX11_jury_X11_isCase : GoodIn wsX11_jury (wsV RX11 164 RX11 yX11_isCase wsX11_isCase) := goodIn_app (goodIn_of _ (by decide +kernel)) ggX11_jury_X11_isCase
set_option maxRecDepth 20000 in
theorem ggX11_jury_X0_measure : GoodIn wsX11_jury wsX0_measure := goodIn_r _ [17, 18, 19, 20, 21, 22, 23, 24, 25, 26, 27, 28, 29, 30, 31, 32, 33, 34, 35, 36, 37, 38, 39, 40, 41, 42, 43, 44, 45, 46, 47, 48, 79, 80, 81, 82, 83, 84, 85, 86, 87, 88, 89, 90, 91, 92, 93, 94, 95, 96, 97, 98, 99, 100, 101, 102, 103, 104, 105, 106, 107, 108, 109, 110, 111] (by decide +kernel) (by decide +kernel)
set_option maxRecDepth 20000 in
theorem gX11_jury_X0_measure : GoodIn wsX11_jury (wsV RX11 246 RX0 yX0_measure wsX0_measure) := goodIn_app (goodIn_of _ (by decide +kernel)) ggX11_jury_X0_measure
set_option maxRecDepth 20000 in
theorem ggX11_jury_X0_nearest : GoodIn wsX11_jury wsX0_nearest := goodIn_r _ [52, 18, 53, 54, 30, 55, 56, 57, 58, 59, 60, 61, 16, 62, 20, 19, 79, 80, 81, 82, 83, 84, 85, 86, 87, 88, 89, 90, 91, 92, 93, 94, 95, 96, 97, 98, 99, 100] (by decide +kernel) (by decide +kernel)
set_option maxRecDepth 20000 in
theorem gX11_jury_X0_nearest : GoodIn wsX11_jury (wsV RX11 259 RX0 yX0_nearest wsX0_nearest) := goodIn_app (goodIn_of _ (by decide +kernel)) ggX11_jury_X0_nearest
set_option maxRecDepth 20000 in
theorem ggX11_jury_X0_apart : GoodIn wsX11_jury wsX0_apart := goodIn_r _ [62, 20, 19, 95, 96, 97, 98, 99, 100] (by decide +kernel) (by decide +kernel)
set_option maxRecDepth 20000 in
theorem gX11_jury_X0_apart : GoodIn wsX11_jury (wsV RX11 263 RX0 yX0_apart wsX0_apart) := goodIn_app (goodIn_of _ (by decide +kernel)) ggX11_jury_X0_apart
set_option maxRecDepth 20000 in
theorem ggX11_likely_X11_isCase : GoodIn wsX11_likely wsX11_isCase := goodIn_r _ [13, 4, 14, 80, 81, 82, 83, 84, 85, 86, 87, 88, 89, 90, 91, 92, 93, 94, 95, 96, 97, 98, 99, 100, 101, 102, 103, 104, 105, 106, 107, 108, 109, 110] (by decide +kernel) (by decide +kernel)
set_option maxRecDepth 20000 in
theorem gX11_likely_X11_isCase : GoodIn wsX11_likely (wsV RX11 164 RX11 yX11_isCase wsX11_isCase) := goodIn_app (goodIn_of _ (by decide +kernel)) ggX11_likely_X11_isCase
set_option maxRecDepth 20000 in
theorem ggX11_likely_X0_measure : GoodIn wsX11_likely wsX0_measure := goodIn_r _ [19, 20, 21, 22, 23, 24, 25, 26, 27, 28, 29, 30, 31, 32, 33, 34, 35, 36, 37, 38, 39, 40, 41, 42, 43, 44, 45, 46, 47, 48, 49, 50, 95, 96, 97, 98, 99, 100, 101, 102, 103, 104, 105, 106, 107, 108, 109, 110, 122, 123, 124, 125, 126, 127, 111, 112, 113, 114, 115, 116, 117, 118, 119, 120, 121] (by decide +kernel) (by decide +kernel)
set_option maxRecDepth 20000 in
theorem gX11_likely_X0_measure : GoodIn wsX11_likely (wsV RX11 246 RX0 yX0_measure wsX0_measure) := goodIn_app (goodIn_of _ (by decide +kernel)) ggX11_likely_X0_measure
set_option maxRecDepth 20000 in
theorem ggX11_likely_X0_weigh : GoodIn wsX11_likely wsX0_weigh := goodIn_r _ [54, 55, 56, 20, 57, 30, 31, 32, 33, 34, 122, 123, 124, 125, 126, 127, 95, 96, 97, 98, 99, 100, 101, 102, 103, 104, 105, 106, 107, 108, 109, 110] (by decide +kernel) (by decide +kernel)
set_option maxRecDepth 20000 in
theorem gX11_likely_X0_weigh : GoodIn wsX11_likely (wsV RX11 265 RX0 yX0_weigh wsX0_weigh) := goodIn_app (goodIn_of _ (by decide +kernel)) ggX11_likely_X0_weigh
set_option maxRecDepth 20000 in
theorem ggX11_likely_X0_partOfFreeWeight : GoodIn wsX11_likely wsX0_partOfFreeWeight := goodIn_r _ [61, 62, 63, 64, 65, 18, 66, 55, 56, 67, 68, 69, 70, 22, 21, 71, 72, 32, 73, 74, 75, 76, 77, 78, 79, 122, 123, 124, 125, 126, 127] (by decide +kernel) (by decide +kernel)
set_option maxRecDepth 20000 in
theorem gX11_likely_X0_partOfFreeWeight : GoodIn wsX11_likely (wsV RX11 268 RX0 yX0_partOfFreeWeight wsX0_partOfFreeWeight) := goodIn_app (goodIn_of _ (by decide +kernel)) ggX11_likely_X0_partOfFreeWeight
set_option maxRecDepth 20000 in
theorem ggX11_panel_X11_isCase : GoodIn wsX11_panel wsX11_isCase := goodIn_r _ [14, 3, 15, 87, 88, 89, 90, 91, 92, 93, 94, 95, 96, 97, 98, 99, 100, 101, 102, 103, 104, 105, 106, 107, 108, 109, 110, 111, 112, 113, 114, 115, 116, 117] (by decide +kernel) (by decide +kernel)
set_option maxRecDepth 20000 in
theorem gX11_panel_X11_isCase : GoodIn wsX11_panel (wsV RX11 164 RX11 yX11_isCase wsX11_isCase) := goodIn_app (goodIn_of _ (by decide +kernel)) ggX11_panel_X11_isCase
set_option maxRecDepth 20000 in
theorem ggX11_panel_X0_measure : GoodIn wsX11_panel wsX0_measure := goodIn_r _ [20, 21, 22, 23, 24, 25, 26, 27, 28, 29, 30, 31, 32, 33, 34, 35, 36, 37, 38, 39, 40, 41, 42, 43, 44, 45, 46, 47, 48, 49, 50, 51, 102, 103, 104, 105, 106, 107, 108, 109, 110, 111, 112, 113, 114, 115, 116, 117, 118, 119, 120, 121, 122, 123, 124, 125, 126, 127, 128, 129, 130, 131, 132, 133, 134] (by decide +kernel) (by decide +kernel)
set_option maxRecDepth 20000 in
theorem gX11_panel_X0_measure : GoodIn wsX11_panel (wsV RX11 246 RX0 yX0_measure wsX0_measure) := goodIn_app (goodIn_of _ (by decide +kernel)) ggX11_panel_X0_measure
set_option maxRecDepth 20000 in
theorem ggX11_panel_X0_weigh : GoodIn wsX11_panel wsX0_weigh := goodIn_r _ [55, 56, 57, 21, 58, 31, 32, 33, 34, 35, 118, 119, 120, 121, 122, 123, 102, 103, 104, 105, 106, 107, 108, 109, 110, 111, 112, 113, 114, 115, 116, 117] (by decide +kernel) (by decide +kernel)
set_option maxRecDepth 20000 in
theorem gX11_panel_X0_weigh : GoodIn wsX11_panel (wsV RX11 265 RX0 yX0_weigh wsX0_weigh) := goodIn_app (goodIn_of _ (by decide +kernel)) ggX11_panel_X0_weigh
set_option maxRecDepth 20000 in
theorem ggX11_panel_X0_likeliest : GoodIn wsX11_panel wsX0_likeliest := goodIn_r _ [62, 63, 21, 64, 65, 66, 33, 67, 68, 69, 70, 71, 72, 73, 19, 74, 56, 57, 75, 76, 77, 78, 23, 22, 102, 103, 104, 105, 106, 107, 108, 109, 110, 111, 112, 113, 114, 115, 116, 117, 118, 119, 120, 121, 122, 123] (by decide +kernel) (by decide +kernel)
set_option maxRecDepth 20000 in
theorem gX11_panel_X0_likeliest : GoodIn wsX11_panel (wsV RX11 272 RX0 yX0_likeliest wsX0_likeliest) := goodIn_app (goodIn_of _ (by decide +kernel)) ggX11_panel_X0_likeliest
set_option maxRecDepth 20000 in
theorem ggX11_panel_X0_partOfFreeWeight : GoodIn wsX11_panel wsX0_partOfFreeWeight := goodIn_r _ [82, 83, 71, 72, 73, 19, 74, 56, 57, 75, 76, 77, 78, 23, 22, 65, 66, 33, 67, 68, 69, 70, 84, 85, 86, 118, 119, 120, 121, 122, 123] (by decide +kernel) (by decide +kernel)
set_option maxRecDepth 20000 in
theorem gX11_panel_X0_partOfFreeWeight : GoodIn wsX11_panel (wsV RX11 268 RX0 yX0_partOfFreeWeight wsX0_partOfFreeWeight) := goodIn_app (goodIn_of _ (by decide +kernel)) ggX11_panel_X0_partOfFreeWeight
set_option maxRecDepth 20000 in
theorem ggX11_heard_X11_isFloor : GoodIn wsX11_heard wsX11_isFloor := goodIn_r _ [13, 5, 14, 67, 68, 69, 70, 71, 72, 73, 74, 75, 76, 77, 78, 79, 80, 81, 103, 104, 105, 106, 107, 108, 109, 110, 111, 112, 113, 114, 115, 116, 117, 118] (by decide +kernel) (by decide +kernel)
set_option maxRecDepth 20000 in
theorem gX11_heard_X11_isFloor : GoodIn wsX11_heard (wsV RX11 182 RX11 yX11_isFloor wsX11_isFloor) := goodIn_app (goodIn_of _ (by decide +kernel)) ggX11_heard_X11_isFloor
set_option maxRecDepth 20000 in
theorem ggX11_heard_X0_measure : GoodIn wsX11_heard wsX0_measure := goodIn_r _ [19, 20, 21, 22, 23, 24, 25, 26, 27, 28, 29, 30, 31, 32, 33, 34, 35, 36, 37, 38, 39, 40, 41, 42, 43, 44, 45, 46, 47, 48, 49, 50, 103, 104, 105, 106, 107, 108, 109, 110, 111, 112, 113, 114, 115, 116, 117, 118, 119, 120, 121, 122, 123, 124, 92, 93, 94, 95, 96, 97, 98, 99, 100, 101, 102] (by decide +kernel) (by decide +kernel)
set_option maxRecDepth 20000 in
theorem gX11_heard_X0_measure : GoodIn wsX11_heard (wsV RX11 246 RX0 yX0_measure wsX0_measure) := goodIn_app (goodIn_of _ (by decide +kernel)) ggX11_heard_X0_measure
set_option maxRecDepth 20000 in
theorem ggX11_heard_X0_hear : GoodIn wsX11_heard wsX0_hear := goodIn_r _ [54, 55, 21, 22, 119, 120, 121, 122, 123, 124] (by decide +kernel) (by decide +kernel)
set_option maxRecDepth 20000 in
theorem gX11_heard_X0_hear : GoodIn wsX11_heard (wsV RX11 278 RX0 yX0_hear wsX0_hear) := goodIn_app (goodIn_of _ (by decide +kernel)) ggX11_heard_X0_hear
set_option maxRecDepth 20000 in
theorem ggX11_heard_X0_inAllHeard : GoodIn wsX11_heard wsX0_inAllHeard := goodIn_r _ [59, 55, 119, 120, 121, 122, 123, 124] (by decide +kernel) (by decide +kernel)
set_option maxRecDepth 20000 in
theorem gX11_heard_X0_inAllHeard : GoodIn wsX11_heard (wsV RX11 282 RX0 yX0_inAllHeard wsX0_inAllHeard) := goodIn_app (goodIn_of _ (by decide +kernel)) ggX11_heard_X0_inAllHeard
set_option maxRecDepth 20000 in
theorem ggX11_heard_X0_inHalfHeard : GoodIn wsX11_heard wsX0_inHalfHeard := goodIn_r _ [63, 55, 64, 65, 25, 66, 119, 120, 121, 122, 123, 124] (by decide +kernel) (by decide +kernel)
set_option maxRecDepth 20000 in
theorem gX11_heard_X0_inHalfHeard : GoodIn wsX11_heard (wsV RX11 285 RX0 yX0_inHalfHeard wsX0_inHalfHeard) := goodIn_app (goodIn_of _ (by decide +kernel)) ggX11_heard_X0_inHalfHeard
set_option maxRecDepth 20000 in
theorem ggX11_strikes_X11_isCase : GoodIn wsX11_strikes wsX11_isCase := goodIn_r _ [13, 4, 14, 75, 76, 77, 78, 79, 80, 81, 82, 83, 84, 85, 86, 87, 88, 89, 101, 102, 103, 104, 105, 106, 107, 108, 109, 110, 111, 112, 113, 114, 115, 116] (by decide +kernel) (by decide +kernel)
set_option maxRecDepth 20000 in
theorem gX11_strikes_X11_isCase : GoodIn wsX11_strikes (wsV RX11 164 RX11 yX11_isCase wsX11_isCase) := goodIn_app (goodIn_of _ (by decide +kernel)) ggX11_strikes_X11_isCase
set_option maxRecDepth 20000 in
theorem ggX11_strikes_J6_bitCount_0f7a4 : GoodIn wsX11_strikes wsJ6_bitCount_0f7a4 := goodIn_r _ [18, 19, 20, 21] (by decide +kernel) (by decide +kernel)
set_option maxRecDepth 20000 in
theorem gX11_strikes_J6_bitCount_0f7a4 : GoodIn wsX11_strikes (va_wsS RX11 254 yJ6_bitCount_0f7a4 wsJ6_bitCount_0f7a4) := goodIn_app (goodIn_of _ (by decide +kernel)) ggX11_strikes_J6_bitCount_0f7a4
set_option maxRecDepth 20000 in
theorem ggX11_strikes_X0_measure : GoodIn wsX11_strikes wsX0_measure := goodIn_r _ [26, 27, 28, 29, 30, 31, 32, 33, 34, 35, 36, 37, 38, 17, 39, 40, 41, 42, 43, 44, 45, 46, 47, 48, 49, 50, 51, 52, 53, 54, 55, 56, 101, 102, 103, 104, 105, 106, 107, 108, 109, 110, 111, 112, 113, 114, 115, 116, 117, 118, 119, 120, 121, 122, 90, 91, 92, 93, 94, 95, 96, 97, 98, 99, 100] (by decide +kernel) (by decide +kernel)
set_option maxRecDepth 20000 in
theorem gX11_strikes_X0_measure : GoodIn wsX11_strikes (wsV RX11 246 RX0 yX0_measure wsX0_measure) := goodIn_app (goodIn_of _ (by decide +kernel)) ggX11_strikes_X0_measure
set_option maxRecDepth 20000 in
theorem ggX11_strikes_X0_judgeStrikes : GoodIn wsX11_strikes wsX0_judgeStrikes := goodIn_r _ [60, 61, 62, 16, 17, 18, 19, 20, 21, 63, 64, 65, 25, 66, 29, 28, 67, 68, 69, 70, 117, 118, 119, 120, 121, 122] (by decide +kernel) (by decide +kernel)
set_option maxRecDepth 20000 in
theorem gX11_strikes_X0_judgeStrikes : GoodIn wsX11_strikes (wsV RX11 288 RX0 yX0_judgeStrikes wsX0_judgeStrikes) := goodIn_app (goodIn_of _ (by decide +kernel)) ggX11_strikes_X0_judgeStrikes
set_option maxRecDepth 20000 in
theorem ggX11_strikes_X0_firstStruck : GoodIn wsX11_strikes wsX0_firstStruck := goodIn_r _ [74, 61, 117, 118, 119, 120, 121, 122] (by decide +kernel) (by decide +kernel)
set_option maxRecDepth 20000 in
theorem gX11_strikes_X0_firstStruck : GoodIn wsX11_strikes (wsV RX11 292 RX0 yX0_firstStruck wsX0_firstStruck) := goodIn_app (goodIn_of _ (by decide +kernel)) ggX11_strikes_X0_firstStruck
set_option maxRecDepth 20000 in
theorem ggX11_beats_X9_droppers : GoodIn wsX11_beats wsX9_droppers := goodIn_r _ [10, 11, 12, 92, 93, 94, 95, 96, 97, 98, 99, 100, 101, 102] (by decide +kernel) (by decide +kernel)
set_option maxRecDepth 20000 in
theorem gX11_beats_X9_droppers : GoodIn wsX11_beats (wsV RX11 233 RX9 yX9_droppers wsX9_droppers) := goodIn_app (goodIn_of _ (by decide +kernel)) ggX11_beats_X9_droppers
set_option maxRecDepth 20000 in
theorem ggX11_beats_X11_isCase : GoodIn wsX11_beats wsX11_isCase := goodIn_r _ [17, 3, 18, 61, 62, 63, 64, 65, 66, 67, 68, 69, 70, 71, 72, 73, 74, 75, 76, 77, 78, 79, 80, 81, 82, 83, 84, 85, 86, 87, 88, 89, 90, 91] (by decide +kernel) (by decide +kernel)
set_option maxRecDepth 20000 in
theorem gX11_beats_X11_isCase : GoodIn wsX11_beats (wsV RX11 164 RX11 yX11_isCase wsX11_isCase) := goodIn_app (goodIn_of _ (by decide +kernel)) ggX11_beats_X11_isCase
set_option maxRecDepth 20000 in
theorem ggX11_beats_X0_fewestBeaten : GoodIn wsX11_beats wsX0_fewestBeaten := goodIn_r _ [23, 24, 25, 26, 27, 28, 29, 30, 31, 32, 33, 34, 35, 36, 9, 37, 38, 39, 40, 41, 42, 43, 44, 45, 46, 47, 48, 49, 50, 51, 52, 53, 54, 55, 56, 57, 58, 59, 76, 77, 78, 79, 80, 81, 82, 83, 84, 85, 86, 87, 88, 89, 90, 91, 92, 93, 94, 95, 96, 97, 98, 99, 100, 101, 102] (by decide +kernel) (by decide +kernel)
set_option maxRecDepth 20000 in
theorem gX11_beats_X0_fewestBeaten : GoodIn wsX11_beats (wsV RX11 299 RX0 yX0_fewestBeaten wsX0_fewestBeaten) := goodIn_app (goodIn_of _ (by decide +kernel)) ggX11_beats_X0_fewestBeaten
set_option maxRecDepth 20000 in
theorem ggX11_beats_J6_bitCount_0f7a4 : GoodIn wsX11_beats wsJ6_bitCount_0f7a4 := goodIn_r _ [30, 31, 32, 33] (by decide +kernel) (by decide +kernel)
set_option maxRecDepth 20000 in
theorem gX11_beats_J6_bitCount_0f7a4 : GoodIn wsX11_beats (va_wsS RX11 254 yJ6_bitCount_0f7a4 wsJ6_bitCount_0f7a4) := goodIn_app (goodIn_of _ (by decide +kernel)) ggX11_beats_J6_bitCount_0f7a4
set_option maxRecDepth 20000 in
theorem ggX11_roll_X11_isCase : GoodIn wsX11_roll wsX11_isCase := goodIn_r _ [11, 2, 12, 83, 84, 85, 86, 87, 88, 89, 90, 91, 92, 93, 94, 95, 96, 97, 98, 99, 100, 101, 102, 103, 104, 105, 106, 107, 108, 109, 110, 111, 112, 113] (by decide +kernel) (by decide +kernel)
set_option maxRecDepth 20000 in
theorem gX11_roll_X11_isCase : GoodIn wsX11_roll (wsV RX11 164 RX11 yX11_isCase wsX11_isCase) := goodIn_app (goodIn_of _ (by decide +kernel)) ggX11_roll_X11_isCase
set_option maxRecDepth 20000 in
theorem ggX11_roll_X11_writeName : GoodIn wsX11_roll wsX11_writeName := goodIn_r _ [16, 17, 18, 19, 20, 10, 21, 1, 22, 83, 84, 85, 86, 87, 88, 89, 90, 91, 92, 93, 94, 95, 96, 97] (by decide +kernel) (by decide +kernel)
set_option maxRecDepth 20000 in
theorem gX11_roll_X11_writeName : GoodIn wsX11_roll (wsV RX11 310 RX11 yX11_writeName wsX11_writeName) := goodIn_app (goodIn_of _ (by decide +kernel)) ggX11_roll_X11_writeName
set_option maxRecDepth 20000 in
theorem ggX11_roll_X11_writeText : GoodIn wsX11_roll wsX11_writeText := goodIn_r _ [26, 27, 28, 29, 30, 31, 32, 33, 34, 35, 36, 37, 38, 39, 40, 41, 42, 43, 44, 45, 46, 47, 48, 49, 50, 51, 52, 53, 54, 55, 56, 57, 58, 59, 60, 61, 62, 63, 64, 65, 66, 67, 68, 69, 70, 71, 72, 73, 74, 75, 18, 19, 20, 10, 21, 1, 22, 83, 84, 85, 86, 87, 88, 89, 90, 91, 92, 93, 94, 95, 96, 97] (by decide +kernel) (by decide +kernel)
set_option maxRecDepth 20000 in
theorem gX11_roll_X11_writeText : GoodIn wsX11_roll (wsV RX11 316 RX11 yX11_writeText wsX11_writeText) := goodIn_app (goodIn_of _ (by decide +kernel)) ggX11_roll_X11_writeText
set_option maxRecDepth 20000 in
theorem ggX11_roll_J6_bitCount_0f7a4 : GoodIn wsX11_roll wsJ6_bitCount_0f7a4 := goodIn_r _ [79, 80, 81, 82] (by decide +kernel) (by decide +kernel)
set_option maxRecDepth 20000 in
theorem gX11_roll_J6_bitCount_0f7a4 : GoodIn wsX11_roll (va_wsS RX11 254 yJ6_bitCount_0f7a4 wsJ6_bitCount_0f7a4) := goodIn_app (goodIn_of _ (by decide +kernel)) ggX11_roll_J6_bitCount_0f7a4
set_option maxRecDepth 20000 in
theorem ggX11_roll_X11_writeLetter : GoodIn wsX11_roll wsX11_writeLetter := goodIn_r _ [21, 1, 22, 83, 84, 85, 86, 87, 88, 89, 90, 91, 92, 93, 94, 95, 96, 97] (by decide +kernel) (by decide +kernel)
set_option maxRecDepth 20000 in
theorem gX11_roll_X11_writeLetter : GoodIn wsX11_roll (wsV RX11 324 RX11 yX11_writeLetter wsX11_writeLetter) := goodIn_app (goodIn_of _ (by decide +kernel)) ggX11_roll_X11_writeLetter
set_option maxRecDepth 20000 in
theorem ggX11_drawn_X9_daysLeft : GoodIn wsX11_drawn wsX9_daysLeft := goodIn_r _ [13, 14, 134, 135, 136, 137, 138, 139, 140, 141, 142, 143, 144] (by decide +kernel) (by decide +kernel)
set_option maxRecDepth 20000 in
theorem gX11_drawn_X9_daysLeft : GoodIn wsX11_drawn (wsV RX11 212 RX9 yX9_daysLeft wsX9_daysLeft) := goodIn_app (goodIn_of _ (by decide +kernel)) ggX11_drawn_X9_daysLeft
set_option maxRecDepth 20000 in
theorem ggX11_drawn_X3_keep : GoodIn wsX11_drawn wsX3_keep := goodIn_r _ [19, 20, 21, 22, 23, 5, 6, 7, 24, 25, 26, 12, 27, 14, 28, 29, 30, 31, 32, 33, 34, 35, 36, 37, 38, 39, 40, 41, 145, 146, 147, 134, 135, 136, 137, 138, 139, 140, 141, 142, 143, 144] (by decide +kernel) (by decide +kernel)
set_option maxRecDepth 20000 in
theorem gX11_drawn_X3_keep : GoodIn wsX11_drawn (wsV RX11 328 RX3 yX3_keep wsX3_keep) := goodIn_app (goodIn_of _ (by decide +kernel)) ggX11_drawn_X3_keep
set_option maxRecDepth 20000 in
theorem ggX11_drawn_X9_drawDays : GoodIn wsX11_drawn wsX9_drawDays := goodIn_r _ [45, 46, 47, 48, 12, 49, 50, 51, 52, 32, 53, 54, 55, 56, 57, 58, 59, 60, 61, 62, 63, 28, 29, 38, 64, 65, 66, 67, 68, 69, 39, 14, 40, 41, 30, 31, 70, 5, 6, 7, 37, 71, 72, 73, 74, 75, 76, 77, 78, 79, 80, 81, 82, 83, 84, 85, 86, 87, 88, 89, 90, 91, 92, 93, 94, 95, 96, 97, 98, 99, 100, 101, 102, 118, 119, 120, 121, 122, 123, 124, 125, 126, 127, 128, 129, 130, 131, 132, 133, 134, 135, 136, 137, 138, 139, 140, 141, 142, 143, 144] (by decide +kernel) (by decide +kernel)
set_option maxRecDepth 20000 in
theorem gX11_drawn_X9_drawDays : GoodIn wsX11_drawn (wsV RX11 331 RX9 yX9_drawDays wsX9_drawDays) := goodIn_app (goodIn_of _ (by decide +kernel)) ggX11_drawn_X9_drawDays
set_option maxRecDepth 20000 in
theorem ggX11_odds_X11_isCase : GoodIn wsX11_odds wsX11_isCase := goodIn_r _ [14, 1, 15, 101, 102, 103, 104, 105, 106, 107, 108, 109, 110, 111, 112, 113, 114, 115, 116, 117, 118, 119, 120, 121, 122, 123, 124, 125, 126, 127, 128, 129, 130, 131] (by decide +kernel) (by decide +kernel)
set_option maxRecDepth 20000 in
theorem gX11_odds_X11_isCase : GoodIn wsX11_odds (wsV RX11 164 RX11 yX11_isCase wsX11_isCase) := goodIn_app (goodIn_of _ (by decide +kernel)) ggX11_odds_X11_isCase
set_option maxRecDepth 20000 in
theorem ggX11_odds_X9_copyFrom : GoodIn wsX11_odds wsX9_copyFrom := goodIn_r _ [20, 21, 22, 23, 24, 25, 26, 27, 28, 29, 30, 31, 32, 33, 34, 35, 132, 133, 134, 135, 136, 137, 138, 139, 140, 141, 142] (by decide +kernel) (by decide +kernel)
set_option maxRecDepth 20000 in
theorem gX11_odds_X9_copyFrom : GoodIn wsX11_odds (wsV RX11 335 RX9 yX9_copyFrom wsX9_copyFrom) := goodIn_app (goodIn_of _ (by decide +kernel)) ggX11_odds_X9_copyFrom
set_option maxRecDepth 20000 in
theorem ggX11_odds_X9_daysLeft : GoodIn wsX11_odds wsX9_daysLeft := goodIn_r _ [39, 21, 132, 133, 134, 135, 136, 137, 138, 139, 140, 141, 142] (by decide +kernel) (by decide +kernel)
set_option maxRecDepth 20000 in
theorem gX11_odds_X9_daysLeft : GoodIn wsX11_odds (wsV RX11 212 RX9 yX9_daysLeft wsX9_daysLeft) := goodIn_app (goodIn_of _ (by decide +kernel)) ggX11_odds_X9_daysLeft
set_option maxRecDepth 20000 in
theorem ggX11_odds_X9_drawDays : GoodIn wsX11_odds wsX9_drawDays := goodIn_r _ [43, 44, 45, 46, 19, 47, 48, 49, 50, 26, 51, 52, 53, 54, 55, 56, 57, 58, 59, 60, 61, 22, 23, 32, 62, 63, 64, 65, 66, 67, 33, 21, 34, 35, 24, 25, 68, 6, 7, 8, 31, 69, 70, 71, 72, 73, 74, 75, 76, 77, 78, 79, 80, 81, 82, 83, 84, 85, 86, 87, 88, 89, 90, 91, 92, 93, 94, 95, 96, 97, 98, 99, 100, 116, 117, 118, 119, 120, 121, 122, 123, 124, 125, 126, 127, 128, 129, 130, 131, 132, 133, 134, 135, 136, 137, 138, 139, 140, 141, 142] (by decide +kernel) (by decide +kernel)
set_option maxRecDepth 20000 in
theorem gX11_odds_X9_drawDays : GoodIn wsX11_odds (wsV RX11 331 RX9 yX9_drawDays wsX9_drawDays) := goodIn_app (goodIn_of _ (by decide +kernel)) ggX11_odds_X9_drawDays
set_option maxRecDepth 20000 in
theorem ggX11_book_X1_readLines : GoodIn wsX11_book wsX1_readLines := goodIn_r _ [14, 15, 16, 17, 18, 19, 20, 21, 22, 23, 24, 25, 26, 27, 28, 29, 30, 31, 32, 33, 34, 35, 36, 37, 38, 39, 40, 41, 42, 43, 44, 45, 46, 47, 48, 49, 50, 51, 52, 53, 54, 55, 56, 57, 58, 13, 59, 60, 61, 62, 63, 64, 65, 66, 67, 68, 69, 70, 71, 72, 73, 74, 75, 76, 77, 78, 79, 80, 81, 82, 83, 84, 85, 86, 87, 88, 89, 90, 91, 92, 93, 94, 95, 96, 97, 98, 99, 100, 101, 102, 103, 104, 105, 106, 107, 108, 109, 110, 111, 112, 113, 114, 115, 116, 117, 118, 119, 120, 121, 122, 123, 124, 125, 126, 127, 128, 129, 130, 131, 132, 257, 258, 259, 260, 247, 248, 249, 250, 251, 252, 253, 254, 255, 256, 261, 262, 263, 264, 265, 266, 267, 268, 269, 270, 271, 272, 273, 274, 275, 276] (by decide +kernel) (by decide +kernel)
set_option maxRecDepth 20000 in
theorem gX11_book_X1_readLines : GoodIn wsX11_book (wsV RX11 337 RX1 yX1_readLines wsX1_readLines) := goodIn_app (goodIn_of _ (by decide +kernel)) ggX11_book_X1_readLines
set_option maxRecDepth 20000 in
theorem ggX11_book_X6_isBroken : GoodIn wsX11_book wsX6_isBroken := goodIn_r _ [42, 24, 247, 248, 249, 250, 251, 252, 253, 254, 255, 256] (by decide +kernel) (by decide +kernel)
set_option maxRecDepth 20000 in
theorem gX11_book_X6_isBroken : GoodIn wsX11_book (wsV RX11 114 RX6 yX6_isBroken wsX6_isBroken) := goodIn_app (goodIn_of _ (by decide +kernel)) ggX11_book_X6_isBroken
set_option maxRecDepth 20000 in
theorem ggX11_book_X9_copyFrom : GoodIn wsX11_book wsX9_copyFrom := goodIn_r _ [138, 139, 140, 141, 142, 143, 144, 145, 146, 147, 148, 149, 150, 151, 152, 153, 277, 278, 279, 280, 281, 282, 283, 284, 285, 286, 287] (by decide +kernel) (by decide +kernel)
set_option maxRecDepth 20000 in
theorem gX11_book_X9_copyFrom : GoodIn wsX11_book (wsV RX11 335 RX9 yX9_copyFrom wsX9_copyFrom) := goodIn_app (goodIn_of _ (by decide +kernel)) ggX11_book_X9_copyFrom
set_option maxRecDepth 20000 in
theorem ggX11_book_X11_liveBook : GoodIn wsX11_book wsX11_liveBook := goodIn_r _ [158, 1, 9, 6, 159, 160, 2, 161, 162, 163, 164, 165, 137, 166, 140, 141, 144, 167, 168, 169, 170, 150, 143, 171, 172, 173, 174, 175, 176, 177, 178, 153, 179, 180, 181, 182, 139, 183, 184, 185, 186, 187, 188, 189, 190, 191, 192, 151, 152, 142, 193, 194, 32, 33, 34, 149, 195, 196, 197, 198, 199, 200, 201, 202, 203, 204, 78, 205, 206, 207, 208, 209, 210, 211, 212, 213, 214, 215, 216, 217, 218, 219, 220, 221, 232, 233, 234, 235, 236, 237, 238, 239, 240, 241, 242, 243, 244, 245, 246, 257, 258, 259, 260, 277, 278, 279, 280, 281, 282, 283, 284, 285, 286, 287, 261, 262, 263, 264, 265, 266, 267, 268, 269, 270, 271, 272, 273, 274, 275, 276] (by decide +kernel) (by decide +kernel)
set_option maxRecDepth 20000 in
theorem gX11_book_X11_liveBook : GoodIn wsX11_book (wsV RX11 339 RX11 yX11_liveBook wsX11_liveBook) := goodIn_app (goodIn_of _ (by decide +kernel)) ggX11_book_X11_liveBook
set_option maxRecDepth 20000 in
theorem ggX11_book_X3_keep : GoodIn wsX11_book wsX3_keep := goodIn_r _ [226, 227, 228, 229, 230, 32, 33, 34, 231, 135, 136, 137, 138, 139, 140, 141, 142, 143, 144, 145, 146, 147, 148, 149, 150, 151, 152, 153, 288, 289, 290, 277, 278, 279, 280, 281, 282, 283, 284, 285, 286, 287] (by decide +kernel) (by decide +kernel)
set_option maxRecDepth 20000 in
theorem gX11_book_X3_keep : GoodIn wsX11_book (wsV RX11 328 RX3 yX3_keep wsX3_keep) := goodIn_app (goodIn_of _ (by decide +kernel)) ggX11_book_X3_keep
set_option maxRecDepth 20000 in
theorem ggX11_sentence_X8_begin : GoodIn wsX11_sentence wsX8_begin := goodIn_r _ [13, 14, 15, 16, 17, 18, 19, 20, 21, 22, 23, 24, 25, 26, 27, 28, 29, 30, 31, 32, 33, 34, 35, 36, 37, 38, 39, 40, 41, 42, 43, 44, 45, 46, 47, 48, 49, 50, 51, 52, 53, 54, 55, 56, 57, 58, 201, 202, 203, 204, 205, 206, 207, 208, 209, 191, 192, 193, 194, 195, 196, 197, 198, 199, 200] (by decide +kernel) (by decide +kernel)
set_option maxRecDepth 20000 in
theorem gX11_sentence_X8_begin : GoodIn wsX11_sentence (wsV RX11 345 RX8 yX8_begin wsX8_begin) := goodIn_app (goodIn_of _ (by decide +kernel)) ggX11_sentence_X8_begin
set_option maxRecDepth 20000 in
theorem ggX11_sentence_X8_readCond : GoodIn wsX11_sentence wsX8_readCond := goodIn_r _ [62, 16, 63, 14, 64, 65, 66, 12, 67, 68, 69, 27, 70, 71, 72, 73, 74, 45, 43, 75, 33, 34, 35, 36, 37, 29, 38, 39, 40, 41, 30, 42, 44, 46, 47, 48, 49, 31, 50, 51, 52, 53, 54, 55, 56, 57, 58, 76, 77, 78, 20, 79, 23, 80, 81, 82, 83, 84, 85, 86, 87, 88, 89, 15, 90, 91, 92, 93, 94, 95, 96, 97, 98, 99, 100, 101, 102, 103, 104, 105, 106, 107, 108, 109, 110, 111, 112, 113, 114, 115, 116, 32, 117, 118, 60, 61, 119, 120, 121, 122, 123, 124, 125, 126, 127, 128, 129, 130, 131, 132, 133, 134, 135, 136, 137, 138, 139, 140, 141, 142, 143, 144, 145, 146, 147, 148, 149, 150, 151, 152, 153, 154, 155, 156, 157, 158, 159, 160, 161, 201, 202, 203, 191, 192, 193, 194, 195, 196, 197, 198, 199, 200, 204, 205, 206, 207, 208, 209, 210, 211, 212, 213, 214, 215, 216, 217, 218, 219, 220, 221, 222, 223, 224, 225] (by decide +kernel) (by decide +kernel)
set_option maxRecDepth 20000 in
theorem gX11_sentence_X8_readCond : GoodIn wsX11_sentence (wsV RX11 347 RX8 yX8_readCond wsX8_readCond) := goodIn_app (goodIn_of _ (by decide +kernel)) ggX11_sentence_X8_readCond
set_option maxRecDepth 20000 in
theorem ggX11_sentence_X8_finish : GoodIn wsX11_sentence wsX8_finish := goodIn_r _ [165, 16, 14, 166, 167, 168, 169, 27, 170, 45, 46, 47, 48, 49, 31, 113, 114, 115, 116, 44, 32, 43, 201, 202, 203, 204, 205, 206, 207, 208, 209, 191, 192, 193, 194, 195, 196, 197, 198, 199, 200] (by decide +kernel) (by decide +kernel)
set_option maxRecDepth 20000 in
theorem gX11_sentence_X8_finish : GoodIn wsX11_sentence (wsV RX11 351 RX8 yX8_finish wsX8_finish) := goodIn_app (goodIn_of _ (by decide +kernel)) ggX11_sentence_X8_finish
set_option maxRecDepth 20000 in
theorem ggX11_sentence_X6_isBroken : GoodIn wsX11_sentence wsX6_isBroken := goodIn_r _ [49, 31, 191, 192, 193, 194, 195, 196, 197, 198, 199, 200] (by decide +kernel) (by decide +kernel)
set_option maxRecDepth 20000 in
theorem gX11_sentence_X6_isBroken : GoodIn wsX11_sentence (wsV RX11 114 RX6 yX6_isBroken wsX6_isBroken) := goodIn_app (goodIn_of _ (by decide +kernel)) ggX11_sentence_X6_isBroken
set_option maxRecDepth 20000 in
theorem ggX11_sentence_X7_copyFrom : GoodIn wsX11_sentence wsX7_copyFrom := goodIn_r _ [175, 22, 23, 80, 81, 82, 204, 205, 206, 207, 208, 209] (by decide +kernel) (by decide +kernel)
set_option maxRecDepth 20000 in
theorem gX11_sentence_X7_copyFrom : GoodIn wsX11_sentence (wsV RX11 356 RX7 yX7_copyFrom wsX7_copyFrom) := goodIn_app (goodIn_of _ (by decide +kernel)) ggX11_sentence_X7_copyFrom
set_option maxRecDepth 20000 in
theorem ggX11_said_X7_saidOf : GoodIn wsX11_said wsX7_saidOf := goodIn_r _ [10, 11, 12, 13, 14, 15, 16, 17, 18, 19, 20, 9, 21, 22, 23, 24, 25, 26, 27, 28, 29, 30, 31, 32, 33, 34, 35, 36, 37, 38, 39, 40, 41, 42, 43, 44, 45, 46, 47, 48, 49, 50, 51, 52, 53, 54, 55, 56, 57, 58, 59, 60, 61, 62, 63, 64, 65, 66, 95, 96, 97, 98, 99, 100, 101, 102, 103, 104, 105, 106, 107, 108, 109, 110, 89, 90, 91, 92, 93, 94, 111, 112, 113, 114, 115, 116, 117, 118, 119, 120, 121] (by decide +kernel) (by decide +kernel)
set_option maxRecDepth 20000 in
theorem gX11_said_X7_saidOf : GoodIn wsX11_said (wsV RX11 362 RX7 yX7_saidOf wsX7_saidOf) := goodIn_app (goodIn_of _ (by decide +kernel)) ggX11_said_X7_saidOf
set_option maxRecDepth 20000 in
theorem ggX11_said_J6_bitCount_0f7a4 : GoodIn wsX11_said wsJ6_bitCount_0f7a4 := goodIn_r _ [70, 71, 72, 73] (by decide +kernel) (by decide +kernel)
set_option maxRecDepth 20000 in
theorem gX11_said_J6_bitCount_0f7a4 : GoodIn wsX11_said (va_wsS RX11 254 yJ6_bitCount_0f7a4 wsJ6_bitCount_0f7a4) := goodIn_app (goodIn_of _ (by decide +kernel)) ggX11_said_J6_bitCount_0f7a4
set_option maxRecDepth 20000 in
theorem ggX11_image_X5_copyFrom : GoodIn wsX11_image wsX5_copyFrom := goodIn_r _ [13, 14, 15, 16, 17, 18, 19, 20, 21, 22, 23, 24, 25, 26, 27, 28, 29, 30, 31, 32, 33, 80, 81, 82, 83, 84, 85, 86, 87, 88, 89, 90, 91, 92, 93, 94, 95] (by decide +kernel) (by decide +kernel)
set_option maxRecDepth 20000 in
theorem gX11_image_X5_copyFrom : GoodIn wsX11_image (wsV RX11 124 RX5 yX5_copyFrom wsX5_copyFrom) := goodIn_app (goodIn_of _ (by decide +kernel)) ggX11_image_X5_copyFrom
set_option maxRecDepth 20000 in
theorem ggX11_image_X9_copyFrom : GoodIn wsX11_image wsX9_copyFrom := goodIn_r _ [38, 39, 40, 41, 42, 43, 44, 45, 22, 23, 24, 46, 47, 48, 49, 50, 96, 97, 98, 99, 100, 101, 102, 103, 104, 105, 106] (by decide +kernel) (by decide +kernel)
set_option maxRecDepth 20000 in
theorem gX11_image_X9_copyFrom : GoodIn wsX11_image (wsV RX11 335 RX9 yX9_copyFrom wsX9_copyFrom) := goodIn_app (goodIn_of _ (by decide +kernel)) ggX11_image_X9_copyFrom
set_option maxRecDepth 20000 in
theorem ggX11_image_X7_copyFrom : GoodIn wsX11_image wsX7_copyFrom := goodIn_r _ [55, 56, 57, 58, 59, 60, 107, 108, 109, 110, 111, 112] (by decide +kernel) (by decide +kernel)
set_option maxRecDepth 20000 in
theorem gX11_image_X7_copyFrom : GoodIn wsX11_image (wsV RX11 356 RX7 yX7_copyFrom wsX7_copyFrom) := goodIn_app (goodIn_of _ (by decide +kernel)) ggX11_image_X7_copyFrom
set_option maxRecDepth 20000 in
theorem ggX11_restore_X5_copyFrom : GoodIn wsX11_restore wsX5_copyFrom := goodIn_r _ [14, 15, 16, 17, 18, 19, 20, 21, 22, 23, 24, 25, 26, 27, 28, 29, 30, 31, 32, 33, 34, 87, 88, 89, 90, 91, 92, 93, 94, 95, 96, 97, 98, 99, 100, 101, 102] (by decide +kernel) (by decide +kernel)
set_option maxRecDepth 20000 in
theorem gX11_restore_X5_copyFrom : GoodIn wsX11_restore (wsV RX11 124 RX5 yX5_copyFrom wsX5_copyFrom) := goodIn_app (goodIn_of _ (by decide +kernel)) ggX11_restore_X5_copyFrom
set_option maxRecDepth 20000 in
theorem ggX11_restore_X9_copyFrom : GoodIn wsX11_restore wsX9_copyFrom := goodIn_r _ [39, 40, 41, 42, 43, 44, 45, 46, 23, 24, 25, 47, 48, 49, 50, 51, 103, 104, 105, 106, 107, 108, 109, 110, 111, 112, 113] (by decide +kernel) (by decide +kernel)
set_option maxRecDepth 20000 in
theorem gX11_restore_X9_copyFrom : GoodIn wsX11_restore (wsV RX11 335 RX9 yX9_copyFrom wsX9_copyFrom) := goodIn_app (goodIn_of _ (by decide +kernel)) ggX11_restore_X9_copyFrom
set_option maxRecDepth 20000 in
theorem ggX11_restore_X7_copyFrom : GoodIn wsX11_restore wsX7_copyFrom := goodIn_r _ [56, 57, 58, 59, 60, 61, 114, 115, 116, 117, 118, 119] (by decide +kernel) (by decide +kernel)
set_option maxRecDepth 20000 in
theorem gX11_restore_X7_copyFrom : GoodIn wsX11_restore (wsV RX11 356 RX7 yX7_copyFrom wsX7_copyFrom) := goodIn_app (goodIn_of _ (by decide +kernel)) ggX11_restore_X7_copyFrom
set_option maxRecDepth 20000 in
theorem ggX11_restore_X3_forget : GoodIn wsX11_restore wsX3_forget := goodIn_r _ [66, 67, 120, 121, 122] (by decide +kernel) (by decide +kernel)
set_option maxRecDepth 20000 in
theorem gX11_restore_X3_forget : GoodIn wsX11_restore (wsV RX11 131 RX3 yX3_forget wsX3_forget) := goodIn_app (goodIn_of _ (by decide +kernel)) ggX11_restore_X3_forget
set_option maxRecDepth 20000 in
theorem ggX11_act_X9_whyNot : GoodIn wsX11_act wsX9_whyNot := goodIn_r _ [8, 9, 10, 11, 12, 13, 14, 7, 15, 16, 17, 18, 19, 20, 21, 22, 23, 24, 25, 26, 27, 28, 29, 30, 31, 107, 108, 109, 110, 111, 112, 113, 114, 115, 116, 117] (by decide +kernel) (by decide +kernel)
set_option maxRecDepth 20000 in
theorem gX11_act_X9_whyNot : GoodIn wsX11_act (wsV RX11 381 RX9 yX9_whyNot wsX9_whyNot) := goodIn_app (goodIn_of _ (by decide +kernel)) ggX11_act_X9_whyNot
set_option maxRecDepth 20000 in
theorem ggX11_act_X3_keep : GoodIn wsX11_act wsX3_keep := goodIn_r _ [36, 37, 38, 39, 40, 41, 42, 43, 44, 45, 46, 7, 47, 31, 9, 10, 48, 17, 11, 49, 50, 51, 52, 53, 16, 54, 55, 26, 118, 119, 120, 107, 108, 109, 110, 111, 112, 113, 114, 115, 116, 117] (by decide +kernel) (by decide +kernel)
set_option maxRecDepth 20000 in
theorem gX11_act_X3_keep : GoodIn wsX11_act (wsV RX11 328 RX3 yX3_keep wsX3_keep) := goodIn_app (goodIn_of _ (by decide +kernel)) ggX11_act_X3_keep
set_option maxRecDepth 20000 in
theorem ggX11_act_X9_carryOut : GoodIn wsX11_act wsX9_carryOut := goodIn_r _ [59, 9, 10, 11, 16, 60, 61, 62, 7, 63, 64, 65, 54, 31, 55, 26, 48, 17, 66, 67, 41, 42, 43, 53, 18, 19, 20, 21, 68, 69, 70, 71, 72, 73, 74, 75, 76, 77, 78, 79, 80, 81, 82, 83, 84, 85, 86, 87, 88, 89, 90, 91, 107, 108, 109, 110, 111, 112, 113, 114, 115, 116, 117, 121, 122, 123, 124, 125, 126, 127, 128, 129, 130, 131, 132, 133, 134, 135, 136] (by decide +kernel) (by decide +kernel)
set_option maxRecDepth 20000 in
theorem gX11_act_X9_carryOut : GoodIn wsX11_act (wsV RX11 384 RX9 yX9_carryOut wsX9_carryOut) := goodIn_app (goodIn_of _ (by decide +kernel)) ggX11_act_X9_carryOut
set_option maxRecDepth 20000 in
theorem ggX11_liveBook_X9_whyNot : GoodIn wsX11_liveBook wsX9_whyNot := goodIn_r _ [13, 14, 15, 16, 17, 18, 19, 12, 20, 21, 22, 23, 24, 25, 26, 27, 28, 29, 30, 31, 32, 33, 34, 35, 36, 103, 104, 105, 106, 107, 108, 109, 110, 111, 112, 113] (by decide +kernel) (by decide +kernel)
set_option maxRecDepth 20000 in
theorem gX11_liveBook_X9_whyNot : GoodIn wsX11_liveBook (wsV RX11 381 RX9 yX9_whyNot wsX9_whyNot) := goodIn_app (goodIn_of _ (by decide +kernel)) ggX11_liveBook_X9_whyNot
set_option maxRecDepth 20000 in
theorem ggX11_liveBook_X9_carryOut : GoodIn wsX11_liveBook wsX9_carryOut := goodIn_r _ [40, 14, 15, 16, 21, 41, 42, 43, 12, 44, 45, 46, 47, 36, 48, 31, 49, 22, 50, 51, 52, 53, 54, 55, 23, 24, 25, 26, 56, 57, 58, 59, 60, 61, 62, 63, 64, 65, 66, 67, 68, 69, 70, 71, 72, 73, 74, 75, 76, 77, 78, 79, 103, 104, 105, 106, 107, 108, 109, 110, 111, 112, 113, 114, 115, 116, 117, 118, 119, 120, 121, 122, 123, 124, 125, 126, 127, 128, 129] (by decide +kernel) (by decide +kernel)
set_option maxRecDepth 20000 in
theorem gX11_liveBook_X9_carryOut : GoodIn wsX11_liveBook (wsV RX11 384 RX9 yX9_carryOut wsX9_carryOut) := goodIn_app (goodIn_of _ (by decide +kernel)) ggX11_liveBook_X9_carryOut
set_option maxRecDepth 20000 in
theorem ggX11_liveBook_X9_casesThatAre : GoodIn wsX11_liveBook wsX9_casesThatAre := goodIn_r _ [83, 21, 103, 104, 105, 106, 107, 108, 109, 110, 111, 112, 113] (by decide +kernel) (by decide +kernel)
set_option maxRecDepth 20000 in
theorem gX11_liveBook_X9_casesThatAre : GoodIn wsX11_liveBook (wsV RX11 196 RX9 yX9_casesThatAre wsX9_casesThatAre) := goodIn_app (goodIn_of _ (by decide +kernel)) ggX11_liveBook_X9_casesThatAre
set_option maxRecDepth 20000 in
theorem ggX11_writeName_X11_writeLetter : GoodIn wsX11_writeName wsX11_writeLetter := goodIn_r _ [6, 7, 8, 9, 10, 11, 12, 13, 14, 15, 16, 17, 18, 19, 20, 21, 22, 23] (by decide +kernel) (by decide +kernel)
set_option maxRecDepth 20000 in
theorem gX11_writeName_X11_writeLetter : GoodIn wsX11_writeName (wsV RX11 324 RX11 yX11_writeLetter wsX11_writeLetter) := goodIn_app (goodIn_of _ (by decide +kernel)) ggX11_writeName_X11_writeLetter
set_option maxRecDepth 20000 in
theorem ggX11_writeText_J0_length_8abf5 : GoodIn wsX11_writeText wsJ0_length_8abf5 := goodIn_r _ [5, 6, 7, 8, 9, 4, 10, 11, 12] (by decide +kernel) (by decide +kernel)
set_option maxRecDepth 20000 in
theorem gX11_writeText_J0_length_8abf5 : GoodIn wsX11_writeText (wsV RX11 395 RJ0 yJ0_length_8abf5 wsJ0_length_8abf5) := goodIn_app (goodIn_of _ (by decide +kernel)) ggX11_writeText_J0_length_8abf5
set_option maxRecDepth 20000 in
theorem ggX11_writeText_J0_charAt_5068e : GoodIn wsX11_writeText wsJ0_charAt_5068e := goodIn_r _ [16, 6, 17, 18, 19, 4, 20, 11, 12, 21, 22, 23, 24, 25, 26, 27, 28, 29, 30, 31, 32, 33, 34, 35, 36, 37, 38, 39, 40, 41, 42, 43, 44, 45, 46, 47, 48, 49] (by decide +kernel) (by decide +kernel)
set_option maxRecDepth 20000 in
theorem gX11_writeText_J0_charAt_5068e : GoodIn wsX11_writeText (wsV RX11 399 RJ0 yJ0_charAt_5068e wsJ0_charAt_5068e) := goodIn_app (goodIn_of _ (by decide +kernel)) ggX11_writeText_J0_charAt_5068e
set_option maxRecDepth 20000 in
theorem ggX11_writeText_X11_writeLetter : GoodIn wsX11_writeText wsX11_writeLetter := goodIn_r _ [54, 55, 56, 57, 58, 59, 60, 61, 62, 63, 64, 65, 66, 67, 68, 69, 70, 71] (by decide +kernel) (by decide +kernel)
set_option maxRecDepth 20000 in
theorem gX11_writeText_X11_writeLetter : GoodIn wsX11_writeText (wsV RX11 324 RX11 yX11_writeLetter wsX11_writeLetter) := goodIn_app (goodIn_of _ (by decide +kernel)) ggX11_writeText_X11_writeLetter
set_option maxRecDepth 20000 in
theorem ggX12_feed_X12_come : GoodIn wsX12_feed wsX12_come := goodIn_r _ [7, 8, 2, 9, 10, 11, 12, 13, 14, 15, 16, 17, 18, 19, 20, 21, 22, 23, 24, 25, 26, 27, 28, 29, 30, 31, 32, 33, 34, 35, 36, 37, 38, 39, 40, 41, 42, 43, 44, 45, 46, 47, 48, 49, 50, 51, 52, 53, 54, 55, 56] (by decide +kernel) (by decide +kernel)
set_option maxRecDepth 20000 in
theorem gX12_feed_X12_come : GoodIn wsX12_feed (wsV RX12 14 RX12 yX12_come wsX12_come) := goodIn_app (goodIn_of _ (by decide +kernel)) ggX12_feed_X12_come
set_option maxRecDepth 20000 in
theorem ggX12_go_X12_isLetter : GoodIn wsX12_go wsX12_isLetter := goodIn_r _ [15] (by decide +kernel) (by decide +kernel)
set_option maxRecDepth 20000 in
theorem gX12_go_X12_isLetter : GoodIn wsX12_go (va_wsS RX12 33 yX12_isLetter wsX12_isLetter) := goodIn_app (goodIn_of _ (by decide +kernel)) ggX12_go_X12_isLetter
set_option maxRecDepth 20000 in
theorem ggX12_go_X12_isDigit : GoodIn wsX12_go wsX12_isDigit := goodIn_r _ [18] (by decide +kernel) (by decide +kernel)
set_option maxRecDepth 20000 in
theorem gX12_go_X12_isDigit : GoodIn wsX12_go (va_wsS RX12 37 yX12_isDigit wsX12_isDigit) := goodIn_app (goodIn_of _ (by decide +kernel)) ggX12_go_X12_isDigit
set_option maxRecDepth 20000 in
theorem ggX12_go_X12_tapeAt : GoodIn wsX12_go wsX12_tapeAt := goodIn_r _ [22, 2, 3, 23, 24, 25, 26, 27, 28, 29, 30, 31, 32, 33, 34, 35, 36, 37, 38, 39, 40, 41, 42, 43, 44, 45, 46, 47, 48, 49, 50, 51, 52, 53, 54, 55, 56, 57, 58, 59, 60, 61, 62, 63, 64, 65, 66, 67, 68, 69, 70] (by decide +kernel) (by decide +kernel)
set_option maxRecDepth 20000 in
theorem gX12_go_X12_tapeAt : GoodIn wsX12_go (wsV RX12 50 RX12 yX12_tapeAt wsX12_tapeAt) := goodIn_app (goodIn_of _ (by decide +kernel)) ggX12_go_X12_tapeAt
set_option maxRecDepth 20000 in
theorem ggX12_wordOf_X12_spelt : GoodIn wsX12_wordOf wsX12_spelt := goodIn_r _ [4, 5, 6] (by decide +kernel) (by decide +kernel)
set_option maxRecDepth 20000 in
theorem gX12_wordOf_X12_spelt : GoodIn wsX12_wordOf (va_wsS RX12 58 yX12_spelt wsX12_spelt) := goodIn_app (goodIn_of _ (by decide +kernel)) ggX12_wordOf_X12_spelt
set_option maxRecDepth 20000 in
theorem ggX12_isWord_X12_wordOf : GoodIn wsX12_isWord wsX12_wordOf := goodIn_r _ [6, 7, 8, 5, 9, 10, 11] (by decide +kernel) (by decide +kernel)
set_option maxRecDepth 20000 in
theorem gX12_isWord_X12_wordOf : GoodIn wsX12_isWord (va_wsS RX12 62 yX12_wordOf wsX12_wordOf) := goodIn_app (goodIn_of _ (by decide +kernel)) ggX12_isWord_X12_wordOf
set_option maxRecDepth 20000 in
theorem ggX12_isName_X12_wordOf : GoodIn wsX12_isName wsX12_wordOf := goodIn_r _ [6, 7, 8, 5, 9, 10, 11] (by decide +kernel) (by decide +kernel)
set_option maxRecDepth 20000 in
theorem gX12_isName_X12_wordOf : GoodIn wsX12_isName (va_wsS RX12 62 yX12_wordOf wsX12_wordOf) := goodIn_app (goodIn_of _ (by decide +kernel)) ggX12_isName_X12_wordOf
set_option maxRecDepth 20000 in
theorem ggX12_readNumber_X12_bad : GoodIn wsX12_readNumber wsX12_bad := goodIn_r _ [8, 1, 9, 10, 11, 37, 38, 39, 40, 41, 42, 43, 44, 45, 46, 47, 48, 49, 50, 51, 52, 53, 54, 55, 56, 57, 58, 59, 60, 61, 62, 63, 64, 65, 66, 67, 68, 69, 70, 71, 72, 73, 74, 75, 76, 77, 78, 79, 80, 81, 82, 83, 84] (by decide +kernel) (by decide +kernel)
set_option maxRecDepth 20000 in
theorem gX12_readNumber_X12_bad : GoodIn wsX12_readNumber (wsV RX12 72 RX12 yX12_bad wsX12_bad) := goodIn_app (goodIn_of _ (by decide +kernel)) ggX12_readNumber_X12_bad
set_option maxRecDepth 20000 in
theorem ggX12_readNumber_X12_isIn : GoodIn wsX12_readNumber wsX12_isIn := goodIn_r _ [14] (by decide +kernel) (by decide +kernel)
set_option maxRecDepth 20000 in
theorem gX12_readNumber_X12_isIn : GoodIn wsX12_readNumber (va_wsS RX12 75 yX12_isIn wsX12_isIn) := goodIn_app (goodIn_of _ (by decide +kernel)) ggX12_readNumber_X12_isIn
set_option maxRecDepth 20000 in
theorem ggX12_readNumber_X12_go : GoodIn wsX12_readNumber wsX12_go := goodIn_r _ [18, 19, 20, 21, 10, 22, 1, 23, 24, 2, 25, 26, 27, 28, 7, 29, 30, 31, 32, 33, 34, 35, 36, 37, 38, 39, 40, 41, 42, 43, 44, 45, 46, 47, 48, 49, 50, 51, 52, 53, 54, 55, 56, 57, 58, 59, 60, 61, 62, 63, 64, 65, 66, 67, 68, 69, 70, 71, 72, 73, 74, 75, 76, 77, 78, 79, 80, 81, 82, 83, 84] (by decide +kernel) (by decide +kernel)
set_option maxRecDepth 20000 in
theorem gX12_readNumber_X12_go : GoodIn wsX12_readNumber (wsV RX12 82 RX12 yX12_go wsX12_go) := goodIn_app (goodIn_of _ (by decide +kernel)) ggX12_readNumber_X12_go
set_option maxRecDepth 20000 in
theorem ggX12_readEnd_X12_isSign : GoodIn wsX12_readEnd wsX12_isSign := goodIn_r _ [5, 6, 7, 37, 38, 39, 40, 41, 42, 43, 44, 45, 46, 47, 48, 49, 50, 51, 52, 53, 54, 55, 56, 57, 58, 59, 60, 61, 62, 63, 64, 65, 66, 67, 68, 69, 70, 71, 72, 73, 74, 75, 76, 77, 78, 79, 80, 81, 82, 83, 84] (by decide +kernel) (by decide +kernel)
set_option maxRecDepth 20000 in
theorem gX12_readEnd_X12_isSign : GoodIn wsX12_readEnd (wsV RX12 86 RX12 yX12_isSign wsX12_isSign) := goodIn_app (goodIn_of _ (by decide +kernel)) ggX12_readEnd_X12_isSign
set_option maxRecDepth 20000 in
theorem ggX12_readEnd_X12_bad : GoodIn wsX12_readEnd wsX12_bad := goodIn_r _ [11, 6, 12, 13, 14, 37, 38, 39, 40, 41, 42, 43, 44, 45, 46, 47, 48, 49, 50, 51, 52, 53, 54, 55, 56, 57, 58, 59, 60, 61, 62, 63, 64, 65, 66, 67, 68, 69, 70, 71, 72, 73, 74, 75, 76, 77, 78, 79, 80, 81, 82, 83, 84] (by decide +kernel) (by decide +kernel)
set_option maxRecDepth 20000 in
theorem gX12_readEnd_X12_bad : GoodIn wsX12_readEnd (wsV RX12 72 RX12 yX12_bad wsX12_bad) := goodIn_app (goodIn_of _ (by decide +kernel)) ggX12_readEnd_X12_bad
set_option maxRecDepth 20000 in
theorem ggX12_readEnd_X12_go : GoodIn wsX12_readEnd wsX12_go := goodIn_r _ [18, 19, 20, 21, 13, 22, 6, 7, 23, 24, 25, 26, 27, 28, 4, 29, 30, 31, 32, 33, 34, 35, 36, 37, 38, 39, 40, 41, 42, 43, 44, 45, 46, 47, 48, 49, 50, 51, 52, 53, 54, 55, 56, 57, 58, 59, 60, 61, 62, 63, 64, 65, 66, 67, 68, 69, 70, 71, 72, 73, 74, 75, 76, 77, 78, 79, 80, 81, 82, 83, 84] (by decide +kernel) (by decide +kernel)
set_option maxRecDepth 20000 in
theorem gX12_readEnd_X12_go : GoodIn wsX12_readEnd (wsV RX12 82 RX12 yX12_go wsX12_go) := goodIn_app (goodIn_of _ (by decide +kernel)) ggX12_readEnd_X12_go
set_option maxRecDepth 20000 in
theorem ggX12_begin_X12_take : GoodIn wsX12_begin wsX12_take := goodIn_r _ [10, 11, 34, 35, 36, 37, 38, 39, 40, 41, 42, 43, 44, 45, 46, 47, 48, 49, 50, 51, 52, 53, 54, 55, 56, 57, 58, 59, 60, 61, 62, 63, 64, 65, 66, 67, 68, 69, 70, 71, 72, 73, 74, 75, 76, 77, 78, 79, 80, 81] (by decide +kernel) (by decide +kernel)
set_option maxRecDepth 20000 in
theorem gX12_begin_X12_take : GoodIn wsX12_begin (wsV RX12 89 RX12 yX12_take wsX12_take) := goodIn_app (goodIn_of _ (by decide +kernel)) ggX12_begin_X12_take
set_option maxRecDepth 20000 in
theorem ggX12_begin_X12_go : GoodIn wsX12_begin wsX12_go := goodIn_r _ [15, 5, 2, 16, 17, 3, 18, 19, 20, 21, 22, 23, 24, 25, 9, 26, 27, 28, 29, 30, 31, 32, 33, 34, 35, 36, 37, 38, 39, 40, 41, 42, 43, 44, 45, 46, 47, 48, 49, 50, 51, 52, 53, 54, 55, 56, 57, 58, 59, 60, 61, 62, 63, 64, 65, 66, 67, 68, 69, 70, 71, 72, 73, 74, 75, 76, 77, 78, 79, 80, 81] (by decide +kernel) (by decide +kernel)
set_option maxRecDepth 20000 in
theorem gX12_begin_X12_go : GoodIn wsX12_begin (wsV RX12 82 RX12 yX12_go wsX12_go) := goodIn_app (goodIn_of _ (by decide +kernel)) ggX12_begin_X12_go
set_option maxRecDepth 20000 in
theorem ggX12_init_X12_startRead : GoodIn wsX12_init wsX12_startRead := goodIn_r _ [35, 7, 17, 40, 41, 42, 43, 44, 45, 46, 47, 48, 49, 50, 51, 52, 53, 54, 55, 56, 57, 58, 59, 60, 61, 62, 63, 64, 65, 66, 67, 68, 69, 70, 71, 72, 73, 74, 75, 76, 77, 78, 79, 80, 81, 82, 83, 84, 85, 86, 87] (by decide +kernel) (by decide +kernel)
set_option maxRecDepth 20000 in
theorem gX12_init_X12_startRead : GoodIn wsX12_init (wsV RX12 169 RX12 yX12_startRead wsX12_startRead) := goodIn_app (goodIn_of _ (by decide +kernel)) ggX12_init_X12_startRead
set_option maxRecDepth 20000 in
theorem ggX12_init_X12_startSo : GoodIn wsX12_init wsX12_startSo := goodIn_r _ [39, 6, 40, 41, 42, 43, 44, 45, 46, 47, 48, 49, 50, 51, 52, 53, 54, 55, 56, 57, 58, 59, 60, 61, 62, 63, 64, 65, 66, 67, 68, 69, 70, 71, 72, 73, 74, 75, 76, 77, 78, 79, 80, 81, 82, 83, 84, 85, 86, 87] (by decide +kernel) (by decide +kernel)
set_option maxRecDepth 20000 in
theorem gX12_init_X12_startSo : GoodIn wsX12_init (wsV RX12 172 RX12 yX12_startSo wsX12_startSo) := goodIn_app (goodIn_of _ (by decide +kernel)) ggX12_init_X12_startSo
set_option maxRecDepth 20000 in
theorem ggX12_readNew_X12_isName : GoodIn wsX12_readNew wsX12_isName := goodIn_r _ [8, 9, 3, 10, 11, 7, 12, 13, 14, 15, 16, 17, 48, 49, 50, 51, 52, 53, 54, 55, 56, 57, 58, 59, 60, 61, 62, 63, 64, 65, 66, 67, 68, 69, 70, 71, 72, 73, 74, 75, 76, 77, 78, 79, 80, 81, 82, 83, 84, 85, 86, 87, 88, 89, 90, 91, 92, 93, 94, 95] (by decide +kernel) (by decide +kernel)
set_option maxRecDepth 20000 in
theorem gX12_readNew_X12_isName : GoodIn wsX12_readNew (wsV RX12 175 RX12 yX12_isName wsX12_isName) := goodIn_app (goodIn_of _ (by decide +kernel)) ggX12_readNew_X12_isName
set_option maxRecDepth 20000 in
theorem ggX12_readNew_X12_bad : GoodIn wsX12_readNew wsX12_bad := goodIn_r _ [21, 9, 22, 23, 24, 48, 49, 50, 51, 52, 53, 54, 55, 56, 57, 58, 59, 60, 61, 62, 63, 64, 65, 66, 67, 68, 69, 70, 71, 72, 73, 74, 75, 76, 77, 78, 79, 80, 81, 82, 83, 84, 85, 86, 87, 88, 89, 90, 91, 92, 93, 94, 95] (by decide +kernel) (by decide +kernel)
set_option maxRecDepth 20000 in
theorem gX12_readNew_X12_bad : GoodIn wsX12_readNew (wsV RX12 72 RX12 yX12_bad wsX12_bad) := goodIn_app (goodIn_of _ (by decide +kernel)) ggX12_readNew_X12_bad
set_option maxRecDepth 20000 in
theorem ggX12_readNew_X12_findIn : GoodIn wsX12_readNew wsX12_findIn := goodIn_r _ [27] (by decide +kernel) (by decide +kernel)
set_option maxRecDepth 20000 in
theorem gX12_readNew_X12_findIn : GoodIn wsX12_readNew (va_wsS RX12 179 yX12_findIn wsX12_findIn) := goodIn_app (goodIn_of _ (by decide +kernel)) ggX12_readNew_X12_findIn
set_option maxRecDepth 20000 in
theorem ggX12_readNew_X12_go : GoodIn wsX12_readNew wsX12_go := goodIn_r _ [31, 32, 33, 34, 23, 35, 9, 36, 3, 37, 16, 17, 38, 39, 7, 40, 41, 42, 43, 44, 45, 46, 47, 48, 49, 50, 51, 52, 53, 54, 55, 56, 57, 58, 59, 60, 61, 62, 63, 64, 65, 66, 67, 68, 69, 70, 71, 72, 73, 74, 75, 76, 77, 78, 79, 80, 81, 82, 83, 84, 85, 86, 87, 88, 89, 90, 91, 92, 93, 94, 95] (by decide +kernel) (by decide +kernel)
set_option maxRecDepth 20000 in
theorem gX12_readNew_X12_go : GoodIn wsX12_readNew (wsV RX12 82 RX12 yX12_go wsX12_go) := goodIn_app (goodIn_of _ (by decide +kernel)) ggX12_readNew_X12_go
set_option maxRecDepth 20000 in
theorem ggX12_isOne_X12_isName : GoodIn wsX12_isOne wsX12_isName := goodIn_r _ [8, 9, 2, 10, 11, 7, 12, 13, 14, 15, 16, 17, 28, 29, 30, 31, 32, 33, 34, 35, 36, 37, 38, 39, 40, 41, 42, 43, 44, 45, 46, 47, 48, 49, 50, 51, 52, 53, 54, 55, 56, 57, 58, 59, 60, 61, 62, 63, 64, 65, 66, 67, 68, 69, 70, 71, 72, 73, 74, 75] (by decide +kernel) (by decide +kernel)
set_option maxRecDepth 20000 in
theorem gX12_isOne_X12_isName : GoodIn wsX12_isOne (wsV RX12 175 RX12 yX12_isName wsX12_isName) := goodIn_app (goodIn_of _ (by decide +kernel)) ggX12_isOne_X12_isName
set_option maxRecDepth 20000 in
theorem ggX12_isOne_X12_bad : GoodIn wsX12_isOne wsX12_bad := goodIn_r _ [21, 9, 22, 23, 24, 28, 29, 30, 31, 32, 33, 34, 35, 36, 37, 38, 39, 40, 41, 42, 43, 44, 45, 46, 47, 48, 49, 50, 51, 52, 53, 54, 55, 56, 57, 58, 59, 60, 61, 62, 63, 64, 65, 66, 67, 68, 69, 70, 71, 72, 73, 74, 75] (by decide +kernel) (by decide +kernel)
set_option maxRecDepth 20000 in
theorem gX12_isOne_X12_bad : GoodIn wsX12_isOne (wsV RX12 72 RX12 yX12_bad wsX12_bad) := goodIn_app (goodIn_of _ (by decide +kernel)) ggX12_isOne_X12_bad
set_option maxRecDepth 20000 in
theorem ggX12_isOne_X12_findIn : GoodIn wsX12_isOne wsX12_findIn := goodIn_r _ [27] (by decide +kernel) (by decide +kernel)
set_option maxRecDepth 20000 in
theorem gX12_isOne_X12_findIn : GoodIn wsX12_isOne (va_wsS RX12 179 yX12_findIn wsX12_findIn) := goodIn_app (goodIn_of _ (by decide +kernel)) ggX12_isOne_X12_findIn
set_option maxRecDepth 20000 in
theorem ggX12_readFirst_X12_bad : GoodIn wsX12_readFirst wsX12_bad := goodIn_r _ [6, 7, 8, 9, 10, 34, 35, 36, 37, 38, 39, 40, 41, 42, 43, 44, 45, 46, 47, 48, 49, 50, 51, 52, 53, 54, 55, 56, 57, 58, 59, 60, 61, 62, 63, 64, 65, 66, 67, 68, 69, 70, 71, 72, 73, 74, 75, 76, 77, 78, 79, 80, 81] (by decide +kernel) (by decide +kernel)
set_option maxRecDepth 20000 in
theorem gX12_readFirst_X12_bad : GoodIn wsX12_readFirst (wsV RX12 72 RX12 yX12_bad wsX12_bad) := goodIn_app (goodIn_of _ (by decide +kernel)) ggX12_readFirst_X12_bad
set_option maxRecDepth 20000 in
theorem ggX12_readFirst_X12_go : GoodIn wsX12_readFirst wsX12_go := goodIn_r _ [14, 15, 16, 17, 9, 18, 7, 19, 20, 21, 22, 23, 24, 25, 5, 26, 27, 28, 29, 30, 31, 32, 33, 34, 35, 36, 37, 38, 39, 40, 41, 42, 43, 44, 45, 46, 47, 48, 49, 50, 51, 52, 53, 54, 55, 56, 57, 58, 59, 60, 61, 62, 63, 64, 65, 66, 67, 68, 69, 70, 71, 72, 73, 74, 75, 76, 77, 78, 79, 80, 81] (by decide +kernel) (by decide +kernel)
set_option maxRecDepth 20000 in
theorem gX12_readFirst_X12_go : GoodIn wsX12_readFirst (wsV RX12 82 RX12 yX12_go wsX12_go) := goodIn_app (goodIn_of _ (by decide +kernel)) ggX12_readFirst_X12_go
set_option maxRecDepth 20000 in
theorem ggX12_readJuror_X12_readFirst : GoodIn wsX12_readJuror wsX12_readFirst := goodIn_r _ [6, 1, 7, 8, 9, 5, 10, 11, 12, 13, 14, 15, 16, 17, 18, 19, 20, 21, 22, 23, 24, 25, 26, 27, 28, 29, 30, 31, 32, 33, 34, 35, 36, 37, 72, 73, 74, 75, 76, 77, 78, 79, 80, 81, 82, 83, 84, 85, 86, 87, 88, 89, 90, 91, 92, 93, 94, 95, 96, 97, 98, 99, 100, 101, 102, 103, 104, 105, 106, 107, 108, 109, 110, 111, 112, 113, 114, 115, 116, 117, 118, 119] (by decide +kernel) (by decide +kernel)
set_option maxRecDepth 20000 in
theorem gX12_readJuror_X12_readFirst : GoodIn wsX12_readJuror (wsV RX12 183 RX12 yX12_readFirst wsX12_readFirst) := goodIn_app (goodIn_of _ (by decide +kernel)) ggX12_readJuror_X12_readFirst
set_option maxRecDepth 20000 in
theorem ggX12_readJuror_X12_readNew : GoodIn wsX12_readJuror wsX12_readNew := goodIn_r _ [41, 42, 1, 24, 43, 44, 45, 5, 46, 11, 47, 48, 49, 50, 51, 52, 26, 27, 7, 8, 9, 10, 12, 13, 14, 53, 54, 55, 15, 16, 17, 18, 19, 20, 21, 22, 23, 25, 28, 29, 30, 31, 32, 33, 34, 35, 36, 37, 72, 73, 74, 75, 76, 77, 78, 79, 80, 81, 82, 83, 84, 85, 86, 87, 88, 89, 90, 91, 92, 93, 94, 95, 96, 97, 98, 99, 100, 101, 102, 103, 104, 105, 106, 107, 108, 109, 110, 111, 112, 113, 114, 115, 116, 117, 118, 119] (by decide +kernel) (by decide +kernel)
set_option maxRecDepth 20000 in
theorem gX12_readJuror_X12_readNew : GoodIn wsX12_readJuror (wsV RX12 187 RX12 yX12_readNew wsX12_readNew) := goodIn_app (goodIn_of _ (by decide +kernel)) ggX12_readJuror_X12_readNew
set_option maxRecDepth 20000 in
theorem ggX12_readJuror_X12_readNumber : GoodIn wsX12_readJuror wsX12_readNumber := goodIn_r _ [59, 11, 25, 60, 7, 8, 9, 5, 10, 12, 13, 14, 61, 62, 63, 15, 16, 17, 18, 19, 20, 21, 22, 23, 24, 26, 27, 28, 29, 30, 31, 32, 33, 34, 35, 36, 37, 72, 73, 74, 75, 76, 77, 78, 79, 80, 81, 82, 83, 84, 85, 86, 87, 88, 89, 90, 91, 92, 93, 94, 95, 96, 97, 98, 99, 100, 101, 102, 103, 104, 105, 106, 107, 108, 109, 110, 111, 112, 113, 114, 115, 116, 117, 118, 119] (by decide +kernel) (by decide +kernel)
set_option maxRecDepth 20000 in
theorem gX12_readJuror_X12_readNumber : GoodIn wsX12_readJuror (wsV RX12 190 RX12 yX12_readNumber wsX12_readNumber) := goodIn_app (goodIn_of _ (by decide +kernel)) ggX12_readJuror_X12_readNumber
set_option maxRecDepth 20000 in
theorem ggX12_readJuror_X12_put : GoodIn wsX12_readJuror wsX12_put := goodIn_r _ [67, 1, 60, 72, 73, 74, 75, 76, 77, 78, 79, 80, 81, 82, 83, 84, 85, 86, 87, 88, 89, 90, 91, 92, 93, 94, 95, 96, 97, 98, 99, 100, 101, 102, 103, 104, 105, 106, 107, 108, 109, 110, 111, 112, 113, 114, 115, 116, 117, 118, 119] (by decide +kernel) (by decide +kernel)
set_option maxRecDepth 20000 in
theorem gX12_readJuror_X12_put : GoodIn wsX12_readJuror (wsV RX12 193 RX12 yX12_put wsX12_put) := goodIn_app (goodIn_of _ (by decide +kernel)) ggX12_readJuror_X12_put
set_option maxRecDepth 20000 in
theorem ggX12_readJuror_X12_isWord : GoodIn wsX12_readJuror wsX12_isWord := goodIn_r _ [71, 11, 24, 47, 48, 5, 49, 50, 51, 52, 26, 27, 72, 73, 74, 75, 76, 77, 78, 79, 80, 81, 82, 83, 84, 85, 86, 87, 88, 89, 90, 91, 92, 93, 94, 95, 96, 97, 98, 99, 100, 101, 102, 103, 104, 105, 106, 107, 108, 109, 110, 111, 112, 113, 114, 115, 116, 117, 118, 119] (by decide +kernel) (by decide +kernel)
set_option maxRecDepth 20000 in
theorem gX12_readJuror_X12_isWord : GoodIn wsX12_readJuror (wsV RX12 197 RX12 yX12_isWord wsX12_isWord) := goodIn_app (goodIn_of _ (by decide +kernel)) ggX12_readJuror_X12_isWord
set_option maxRecDepth 20000 in
theorem ggX12_readJuror_X12_go : GoodIn wsX12_readJuror wsX12_go := goodIn_r _ [18, 19, 20, 21, 13, 22, 11, 23, 24, 25, 26, 27, 28, 29, 5, 30, 31, 32, 33, 34, 35, 36, 37, 72, 73, 74, 75, 76, 77, 78, 79, 80, 81, 82, 83, 84, 85, 86, 87, 88, 89, 90, 91, 92, 93, 94, 95, 96, 97, 98, 99, 100, 101, 102, 103, 104, 105, 106, 107, 108, 109, 110, 111, 112, 113, 114, 115, 116, 117, 118, 119] (by decide +kernel) (by decide +kernel)
set_option maxRecDepth 20000 in
theorem gX12_readJuror_X12_go : GoodIn wsX12_readJuror (wsV RX12 82 RX12 yX12_go wsX12_go) := goodIn_app (goodIn_of _ (by decide +kernel)) ggX12_readJuror_X12_go
set_option maxRecDepth 20000 in
theorem ggX12_readFloor_X12_readFirst : GoodIn wsX12_readFloor wsX12_readFirst := goodIn_r _ [6, 1, 7, 8, 9, 5, 10, 11, 12, 13, 14, 15, 16, 17, 18, 19, 20, 21, 22, 23, 24, 25, 26, 27, 28, 29, 30, 31, 32, 33, 34, 35, 36, 37, 68, 69, 70, 71, 72, 73, 74, 75, 76, 77, 78, 79, 80, 81, 82, 83, 84, 85, 86, 87, 88, 89, 90, 91, 92, 93, 94, 95, 96, 97, 98, 99, 100, 101, 102, 103, 104, 105, 106, 107, 108, 109, 110, 111, 112, 113, 114, 115] (by decide +kernel) (by decide +kernel)
set_option maxRecDepth 20000 in
theorem gX12_readFloor_X12_readFirst : GoodIn wsX12_readFloor (wsV RX12 183 RX12 yX12_readFirst wsX12_readFirst) := goodIn_app (goodIn_of _ (by decide +kernel)) ggX12_readFloor_X12_readFirst
set_option maxRecDepth 20000 in
theorem ggX12_readFloor_X12_readNew : GoodIn wsX12_readFloor wsX12_readNew := goodIn_r _ [41, 42, 1, 24, 43, 44, 45, 5, 46, 11, 47, 48, 49, 50, 51, 52, 26, 27, 7, 8, 9, 10, 12, 13, 14, 53, 54, 55, 15, 16, 17, 18, 19, 20, 21, 22, 23, 25, 28, 29, 30, 31, 32, 33, 34, 35, 36, 37, 68, 69, 70, 71, 72, 73, 74, 75, 76, 77, 78, 79, 80, 81, 82, 83, 84, 85, 86, 87, 88, 89, 90, 91, 92, 93, 94, 95, 96, 97, 98, 99, 100, 101, 102, 103, 104, 105, 106, 107, 108, 109, 110, 111, 112, 113, 114, 115] (by decide +kernel) (by decide +kernel)
set_option maxRecDepth 20000 in
theorem gX12_readFloor_X12_readNew : GoodIn wsX12_readFloor (wsV RX12 187 RX12 yX12_readNew wsX12_readNew) := goodIn_app (goodIn_of _ (by decide +kernel)) ggX12_readFloor_X12_readNew
set_option maxRecDepth 20000 in
theorem ggX12_readFloor_X12_readNumber : GoodIn wsX12_readFloor wsX12_readNumber := goodIn_r _ [59, 11, 25, 60, 7, 8, 9, 5, 10, 12, 13, 14, 61, 62, 63, 15, 16, 17, 18, 19, 20, 21, 22, 23, 24, 26, 27, 28, 29, 30, 31, 32, 33, 34, 35, 36, 37, 68, 69, 70, 71, 72, 73, 74, 75, 76, 77, 78, 79, 80, 81, 82, 83, 84, 85, 86, 87, 88, 89, 90, 91, 92, 93, 94, 95, 96, 97, 98, 99, 100, 101, 102, 103, 104, 105, 106, 107, 108, 109, 110, 111, 112, 113, 114, 115] (by decide +kernel) (by decide +kernel)
set_option maxRecDepth 20000 in
theorem gX12_readFloor_X12_readNumber : GoodIn wsX12_readFloor (wsV RX12 190 RX12 yX12_readNumber wsX12_readNumber) := goodIn_app (goodIn_of _ (by decide +kernel)) ggX12_readFloor_X12_readNumber
set_option maxRecDepth 20000 in
theorem ggX12_readFloor_X12_put : GoodIn wsX12_readFloor wsX12_put := goodIn_r _ [67, 1, 60, 68, 69, 70, 71, 72, 73, 74, 75, 76, 77, 78, 79, 80, 81, 82, 83, 84, 85, 86, 87, 88, 89, 90, 91, 92, 93, 94, 95, 96, 97, 98, 99, 100, 101, 102, 103, 104, 105, 106, 107, 108, 109, 110, 111, 112, 113, 114, 115] (by decide +kernel) (by decide +kernel)
set_option maxRecDepth 20000 in
theorem gX12_readFloor_X12_put : GoodIn wsX12_readFloor (wsV RX12 193 RX12 yX12_put wsX12_put) := goodIn_app (goodIn_of _ (by decide +kernel)) ggX12_readFloor_X12_put
set_option maxRecDepth 20000 in
theorem ggX12_readCase_X12_readFirst : GoodIn wsX12_readCase wsX12_readFirst := goodIn_r _ [6, 1, 7, 8, 9, 5, 10, 11, 12, 13, 14, 15, 16, 17, 18, 19, 20, 21, 22, 23, 24, 25, 26, 27, 28, 29, 30, 31, 32, 33, 34, 35, 36, 37, 65, 66, 67, 68, 69, 70, 71, 72, 73, 74, 75, 76, 77, 78, 79, 80, 81, 82, 83, 84, 85, 86, 87, 88, 89, 90, 91, 92, 93, 94, 95, 96, 97, 98, 99, 100, 101, 102, 103, 104, 105, 106, 107, 108, 109, 110, 111, 112] (by decide +kernel) (by decide +kernel)
set_option maxRecDepth 20000 in
theorem gX12_readCase_X12_readFirst : GoodIn wsX12_readCase (wsV RX12 183 RX12 yX12_readFirst wsX12_readFirst) := goodIn_app (goodIn_of _ (by decide +kernel)) ggX12_readCase_X12_readFirst
set_option maxRecDepth 20000 in
theorem ggX12_readCase_X12_readNew : GoodIn wsX12_readCase wsX12_readNew := goodIn_r _ [41, 42, 1, 24, 43, 44, 45, 5, 46, 11, 47, 48, 49, 50, 51, 52, 26, 27, 7, 8, 9, 10, 12, 13, 14, 53, 54, 55, 15, 16, 17, 18, 19, 20, 21, 22, 23, 25, 28, 29, 30, 31, 32, 33, 34, 35, 36, 37, 65, 66, 67, 68, 69, 70, 71, 72, 73, 74, 75, 76, 77, 78, 79, 80, 81, 82, 83, 84, 85, 86, 87, 88, 89, 90, 91, 92, 93, 94, 95, 96, 97, 98, 99, 100, 101, 102, 103, 104, 105, 106, 107, 108, 109, 110, 111, 112] (by decide +kernel) (by decide +kernel)
set_option maxRecDepth 20000 in
theorem gX12_readCase_X12_readNew : GoodIn wsX12_readCase (wsV RX12 187 RX12 yX12_readNew wsX12_readNew) := goodIn_app (goodIn_of _ (by decide +kernel)) ggX12_readCase_X12_readNew
set_option maxRecDepth 20000 in
theorem ggX12_readCase_X12_isOne : GoodIn wsX12_readCase wsX12_isOne := goodIn_r _ [59, 42, 24, 60, 43, 44, 45, 5, 46, 11, 47, 48, 49, 50, 51, 52, 26, 27, 7, 8, 9, 10, 12, 13, 14, 53, 54, 55, 65, 66, 67, 68, 69, 70, 71, 72, 73, 74, 75, 76, 77, 78, 79, 80, 81, 82, 83, 84, 85, 86, 87, 88, 89, 90, 91, 92, 93, 94, 95, 96, 97, 98, 99, 100, 101, 102, 103, 104, 105, 106, 107, 108, 109, 110, 111, 112] (by decide +kernel) (by decide +kernel)
set_option maxRecDepth 20000 in
theorem gX12_readCase_X12_isOne : GoodIn wsX12_readCase (wsV RX12 200 RX12 yX12_isOne wsX12_isOne) := goodIn_app (goodIn_of _ (by decide +kernel)) ggX12_readCase_X12_isOne
set_option maxRecDepth 20000 in
theorem ggX12_readCase_X12_put : GoodIn wsX12_readCase wsX12_put := goodIn_r _ [64, 1, 60, 65, 66, 67, 68, 69, 70, 71, 72, 73, 74, 75, 76, 77, 78, 79, 80, 81, 82, 83, 84, 85, 86, 87, 88, 89, 90, 91, 92, 93, 94, 95, 96, 97, 98, 99, 100, 101, 102, 103, 104, 105, 106, 107, 108, 109, 110, 111, 112] (by decide +kernel) (by decide +kernel)
set_option maxRecDepth 20000 in
theorem gX12_readCase_X12_put : GoodIn wsX12_readCase (wsV RX12 193 RX12 yX12_put wsX12_put) := goodIn_app (goodIn_of _ (by decide +kernel)) ggX12_readCase_X12_put
set_option maxRecDepth 20000 in
theorem ggX12_readCase_X12_go : GoodIn wsX12_readCase wsX12_go := goodIn_r _ [18, 19, 20, 21, 13, 22, 11, 23, 24, 25, 26, 27, 28, 29, 5, 30, 31, 32, 33, 34, 35, 36, 37, 65, 66, 67, 68, 69, 70, 71, 72, 73, 74, 75, 76, 77, 78, 79, 80, 81, 82, 83, 84, 85, 86, 87, 88, 89, 90, 91, 92, 93, 94, 95, 96, 97, 98, 99, 100, 101, 102, 103, 104, 105, 106, 107, 108, 109, 110, 111, 112] (by decide +kernel) (by decide +kernel)
set_option maxRecDepth 20000 in
theorem gX12_readCase_X12_go : GoodIn wsX12_readCase (wsV RX12 82 RX12 yX12_go wsX12_go) := goodIn_app (goodIn_of _ (by decide +kernel)) ggX12_readCase_X12_go
set_option maxRecDepth 20000 in
theorem ggX12_readTuned_X12_go : GoodIn wsX12_readTuned wsX12_go := goodIn_r _ [7, 8, 9, 10, 11, 12, 13, 14, 15, 16, 17, 18, 19, 20, 6, 21, 22, 23, 24, 25, 26, 27, 28, 64, 65, 66, 67, 68, 69, 70, 71, 72, 73, 74, 75, 76, 77, 78, 79, 80, 81, 82, 83, 84, 85, 86, 87, 88, 89, 90, 91, 92, 93, 94, 95, 96, 97, 98, 99, 100, 101, 102, 103, 104, 105, 106, 107, 108, 109, 110, 111] (by decide +kernel) (by decide +kernel)
set_option maxRecDepth 20000 in
theorem gX12_readTuned_X12_go : GoodIn wsX12_readTuned (wsV RX12 82 RX12 yX12_go wsX12_go) := goodIn_app (goodIn_of _ (by decide +kernel)) ggX12_readTuned_X12_go
set_option maxRecDepth 20000 in
theorem ggX12_readTuned_X12_isOne : GoodIn wsX12_readTuned wsX12_isOne := goodIn_r _ [32, 33, 15, 2, 34, 35, 36, 6, 37, 13, 38, 39, 40, 41, 42, 43, 17, 18, 44, 45, 46, 47, 48, 11, 49, 50, 51, 52, 64, 65, 66, 67, 68, 69, 70, 71, 72, 73, 74, 75, 76, 77, 78, 79, 80, 81, 82, 83, 84, 85, 86, 87, 88, 89, 90, 91, 92, 93, 94, 95, 96, 97, 98, 99, 100, 101, 102, 103, 104, 105, 106, 107, 108, 109, 110, 111] (by decide +kernel) (by decide +kernel)
set_option maxRecDepth 20000 in
theorem gX12_readTuned_X12_isOne : GoodIn wsX12_readTuned (wsV RX12 200 RX12 yX12_isOne wsX12_isOne) := goodIn_app (goodIn_of _ (by decide +kernel)) ggX12_readTuned_X12_isOne
set_option maxRecDepth 20000 in
theorem ggX12_readTuned_X12_bad : GoodIn wsX12_readTuned wsX12_bad := goodIn_r _ [47, 13, 48, 11, 49, 64, 65, 66, 67, 68, 69, 70, 71, 72, 73, 74, 75, 76, 77, 78, 79, 80, 81, 82, 83, 84, 85, 86, 87, 88, 89, 90, 91, 92, 93, 94, 95, 96, 97, 98, 99, 100, 101, 102, 103, 104, 105, 106, 107, 108, 109, 110, 111] (by decide +kernel) (by decide +kernel)
set_option maxRecDepth 20000 in
theorem gX12_readTuned_X12_bad : GoodIn wsX12_readTuned (wsV RX12 72 RX12 yX12_bad wsX12_bad) := goodIn_app (goodIn_of _ (by decide +kernel)) ggX12_readTuned_X12_bad
set_option maxRecDepth 20000 in
theorem ggX12_readTuned_X12_readNumber : GoodIn wsX12_readTuned wsX12_readNumber := goodIn_r _ [56, 13, 16, 2, 44, 45, 46, 6, 47, 48, 11, 49, 57, 58, 59, 3, 4, 5, 7, 8, 9, 10, 12, 14, 15, 17, 18, 19, 20, 21, 22, 23, 24, 25, 26, 27, 28, 64, 65, 66, 67, 68, 69, 70, 71, 72, 73, 74, 75, 76, 77, 78, 79, 80, 81, 82, 83, 84, 85, 86, 87, 88, 89, 90, 91, 92, 93, 94, 95, 96, 97, 98, 99, 100, 101, 102, 103, 104, 105, 106, 107, 108, 109, 110, 111] (by decide +kernel) (by decide +kernel)
set_option maxRecDepth 20000 in
theorem gX12_readTuned_X12_readNumber : GoodIn wsX12_readTuned (wsV RX12 190 RX12 yX12_readNumber wsX12_readNumber) := goodIn_app (goodIn_of _ (by decide +kernel)) ggX12_readTuned_X12_readNumber
set_option maxRecDepth 20000 in
theorem ggX12_readTuned_X12_put : GoodIn wsX12_readTuned wsX12_put := goodIn_r _ [63, 1, 2, 64, 65, 66, 67, 68, 69, 70, 71, 72, 73, 74, 75, 76, 77, 78, 79, 80, 81, 82, 83, 84, 85, 86, 87, 88, 89, 90, 91, 92, 93, 94, 95, 96, 97, 98, 99, 100, 101, 102, 103, 104, 105, 106, 107, 108, 109, 110, 111] (by decide +kernel) (by decide +kernel)
set_option maxRecDepth 20000 in
theorem gX12_readTuned_X12_put : GoodIn wsX12_readTuned (wsV RX12 193 RX12 yX12_put wsX12_put) := goodIn_app (goodIn_of _ (by decide +kernel)) ggX12_readTuned_X12_put
set_option maxRecDepth 20000 in
theorem ggX12_readOnce_X12_bad : GoodIn wsX12_readOnce wsX12_bad := goodIn_r _ [6, 7, 8, 9, 10, 47, 48, 49, 50, 51, 52, 53, 54, 55, 56, 57, 58, 59, 60, 61, 62, 63, 64, 65, 66, 67, 68, 69, 70, 71, 72, 73, 74, 75, 76, 77, 78, 79, 80, 81, 82, 83, 84, 85, 86, 87, 88, 89, 90, 91, 92, 93, 94] (by decide +kernel) (by decide +kernel)
set_option maxRecDepth 20000 in
theorem gX12_readOnce_X12_bad : GoodIn wsX12_readOnce (wsV RX12 72 RX12 yX12_bad wsX12_bad) := goodIn_app (goodIn_of _ (by decide +kernel)) ggX12_readOnce_X12_bad
set_option maxRecDepth 20000 in
theorem ggX12_readOnce_X12_go : GoodIn wsX12_readOnce wsX12_go := goodIn_r _ [14, 15, 16, 17, 9, 18, 7, 19, 20, 21, 22, 23, 24, 25, 5, 26, 27, 28, 29, 30, 31, 32, 33, 47, 48, 49, 50, 51, 52, 53, 54, 55, 56, 57, 58, 59, 60, 61, 62, 63, 64, 65, 66, 67, 68, 69, 70, 71, 72, 73, 74, 75, 76, 77, 78, 79, 80, 81, 82, 83, 84, 85, 86, 87, 88, 89, 90, 91, 92, 93, 94] (by decide +kernel) (by decide +kernel)
set_option maxRecDepth 20000 in
theorem gX12_readOnce_X12_go : GoodIn wsX12_readOnce (wsV RX12 82 RX12 yX12_go wsX12_go) := goodIn_app (goodIn_of _ (by decide +kernel)) ggX12_readOnce_X12_go
set_option maxRecDepth 20000 in
theorem ggX12_readOnce_X12_readNumber : GoodIn wsX12_readOnce wsX12_readNumber := goodIn_r _ [37, 7, 21, 38, 2, 3, 4, 5, 6, 8, 9, 10, 39, 40, 41, 11, 12, 13, 14, 15, 16, 17, 18, 19, 20, 22, 23, 24, 25, 26, 27, 28, 29, 30, 31, 32, 33, 47, 48, 49, 50, 51, 52, 53, 54, 55, 56, 57, 58, 59, 60, 61, 62, 63, 64, 65, 66, 67, 68, 69, 70, 71, 72, 73, 74, 75, 76, 77, 78, 79, 80, 81, 82, 83, 84, 85, 86, 87, 88, 89, 90, 91, 92, 93, 94] (by decide +kernel) (by decide +kernel)
set_option maxRecDepth 20000 in
theorem gX12_readOnce_X12_readNumber : GoodIn wsX12_readOnce (wsV RX12 190 RX12 yX12_readNumber wsX12_readNumber) := goodIn_app (goodIn_of _ (by decide +kernel)) ggX12_readOnce_X12_readNumber
set_option maxRecDepth 20000 in
theorem ggX12_readOnce_X12_put : GoodIn wsX12_readOnce wsX12_put := goodIn_r _ [45, 46, 38, 47, 48, 49, 50, 51, 52, 53, 54, 55, 56, 57, 58, 59, 60, 61, 62, 63, 64, 65, 66, 67, 68, 69, 70, 71, 72, 73, 74, 75, 76, 77, 78, 79, 80, 81, 82, 83, 84, 85, 86, 87, 88, 89, 90, 91, 92, 93, 94] (by decide +kernel) (by decide +kernel)
set_option maxRecDepth 20000 in
theorem gX12_readOnce_X12_put : GoodIn wsX12_readOnce (wsV RX12 193 RX12 yX12_put wsX12_put) := goodIn_app (goodIn_of _ (by decide +kernel)) ggX12_readOnce_X12_put
set_option maxRecDepth 20000 in
theorem ggX12_readLine_X12_isWord : GoodIn wsX12_readLine wsX12_isWord := goodIn_r _ [5, 6, 7, 8, 9, 4, 10, 11, 12, 13, 14, 15, 97, 98, 99, 100, 101, 102, 103, 104, 105, 106, 107, 108, 109, 110, 111, 112, 113, 114, 115, 116, 117, 118, 119, 120, 121, 122, 123, 124, 125, 126, 127, 128, 129, 130, 131, 132, 133, 134, 135, 136, 137, 138, 139, 140, 141, 142, 143, 144] (by decide +kernel) (by decide +kernel)
set_option maxRecDepth 20000 in
theorem gX12_readLine_X12_isWord : GoodIn wsX12_readLine (wsV RX12 197 RX12 yX12_isWord wsX12_isWord) := goodIn_app (goodIn_of _ (by decide +kernel)) ggX12_readLine_X12_isWord
set_option maxRecDepth 20000 in
theorem ggX12_readLine_X12_readJuror : GoodIn wsX12_readLine wsX12_readJuror := goodIn_r _ [19, 20, 21, 22, 23, 4, 24, 25, 26, 27, 28, 6, 29, 30, 31, 32, 33, 34, 35, 36, 37, 38, 39, 40, 7, 41, 14, 15, 42, 43, 44, 45, 46, 47, 48, 49, 50, 51, 52, 53, 54, 55, 56, 57, 58, 59, 60, 8, 9, 10, 11, 12, 13, 61, 62, 63, 64, 65, 66, 67, 68, 69, 70, 71, 72, 73, 74, 75, 1, 2, 3, 5, 97, 98, 99, 100, 101, 102, 103, 104, 105, 106, 107, 108, 109, 110, 111, 112, 113, 114, 115, 116, 117, 118, 119, 120, 121, 122, 123, 124, 125, 126, 127, 128, 129, 130, 131, 132, 133, 134, 135, 136, 137, 138, 139, 140, 141, 142, 143, 144] (by decide +kernel) (by decide +kernel)
set_option maxRecDepth 20000 in
theorem gX12_readLine_X12_readJuror : GoodIn wsX12_readLine (wsV RX12 203 RX12 yX12_readJuror wsX12_readJuror) := goodIn_app (goodIn_of _ (by decide +kernel)) ggX12_readLine_X12_readJuror
set_option maxRecDepth 20000 in
theorem ggX12_readLine_X12_readFloor : GoodIn wsX12_readLine wsX12_readFloor := goodIn_r _ [79, 20, 21, 22, 23, 4, 24, 25, 26, 27, 28, 6, 29, 30, 31, 32, 33, 34, 35, 36, 37, 38, 39, 40, 7, 41, 14, 15, 42, 43, 44, 45, 46, 47, 48, 49, 50, 51, 52, 53, 54, 55, 56, 57, 58, 59, 60, 8, 9, 10, 11, 12, 13, 61, 62, 63, 64, 65, 66, 67, 68, 69, 70, 71, 72, 73, 74, 75, 97, 98, 99, 100, 101, 102, 103, 104, 105, 106, 107, 108, 109, 110, 111, 112, 113, 114, 115, 116, 117, 118, 119, 120, 121, 122, 123, 124, 125, 126, 127, 128, 129, 130, 131, 132, 133, 134, 135, 136, 137, 138, 139, 140, 141, 142, 143, 144] (by decide +kernel) (by decide +kernel)
set_option maxRecDepth 20000 in
theorem gX12_readLine_X12_readFloor : GoodIn wsX12_readLine (wsV RX12 206 RX12 yX12_readFloor wsX12_readFloor) := goodIn_app (goodIn_of _ (by decide +kernel)) ggX12_readLine_X12_readFloor
set_option maxRecDepth 20000 in
theorem ggX12_readLine_X12_readCase : GoodIn wsX12_readLine wsX12_readCase := goodIn_r _ [83, 20, 21, 22, 23, 4, 24, 25, 26, 27, 28, 6, 29, 30, 31, 32, 33, 34, 35, 36, 37, 38, 39, 40, 7, 41, 14, 15, 42, 43, 44, 45, 46, 47, 48, 49, 50, 51, 52, 53, 54, 55, 56, 57, 58, 59, 60, 8, 9, 10, 11, 12, 13, 61, 62, 63, 84, 85, 86, 87, 68, 72, 73, 74, 75, 97, 98, 99, 100, 101, 102, 103, 104, 105, 106, 107, 108, 109, 110, 111, 112, 113, 114, 115, 116, 117, 118, 119, 120, 121, 122, 123, 124, 125, 126, 127, 128, 129, 130, 131, 132, 133, 134, 135, 136, 137, 138, 139, 140, 141, 142, 143, 144] (by decide +kernel) (by decide +kernel)
set_option maxRecDepth 20000 in
theorem gX12_readLine_X12_readCase : GoodIn wsX12_readLine (wsV RX12 209 RX12 yX12_readCase wsX12_readCase) := goodIn_app (goodIn_of _ (by decide +kernel)) ggX12_readLine_X12_readCase
set_option maxRecDepth 20000 in
theorem ggX12_readLine_X12_readTuned : GoodIn wsX12_readLine wsX12_readTuned := goodIn_r _ [91, 20, 68, 32, 33, 34, 4, 35, 36, 37, 38, 30, 39, 6, 40, 7, 41, 14, 15, 42, 43, 44, 45, 46, 47, 48, 49, 50, 51, 84, 85, 86, 87, 56, 57, 58, 59, 60, 8, 9, 10, 11, 12, 13, 25, 26, 27, 28, 29, 31, 61, 62, 63, 64, 65, 66, 67, 69, 70, 71, 72, 73, 74, 75, 97, 98, 99, 100, 101, 102, 103, 104, 105, 106, 107, 108, 109, 110, 111, 112, 113, 114, 115, 116, 117, 118, 119, 120, 121, 122, 123, 124, 125, 126, 127, 128, 129, 130, 131, 132, 133, 134, 135, 136, 137, 138, 139, 140, 141, 142, 143, 144] (by decide +kernel) (by decide +kernel)
set_option maxRecDepth 20000 in
theorem gX12_readLine_X12_readTuned : GoodIn wsX12_readLine (wsV RX12 212 RX12 yX12_readTuned wsX12_readTuned) := goodIn_app (goodIn_of _ (by decide +kernel)) ggX12_readLine_X12_readTuned
set_option maxRecDepth 20000 in
theorem ggX12_readLine_X12_readOnce : GoodIn wsX12_readLine wsX12_readOnce := goodIn_r _ [95, 96, 25, 26, 27, 4, 28, 6, 29, 30, 31, 32, 33, 34, 35, 36, 37, 38, 39, 40, 7, 41, 14, 15, 42, 43, 44, 45, 46, 47, 48, 49, 50, 51, 64, 65, 66, 67, 68, 69, 70, 71, 72, 73, 74, 75, 20, 97, 98, 99, 100, 101, 102, 103, 104, 105, 106, 107, 108, 109, 110, 111, 112, 113, 114, 115, 116, 117, 118, 119, 120, 121, 122, 123, 124, 125, 126, 127, 128, 129, 130, 131, 132, 133, 134, 135, 136, 137, 138, 139, 140, 141, 142, 143, 144] (by decide +kernel) (by decide +kernel)
set_option maxRecDepth 20000 in
theorem gX12_readLine_X12_readOnce : GoodIn wsX12_readLine (wsV RX12 215 RX12 yX12_readOnce wsX12_readOnce) := goodIn_app (goodIn_of _ (by decide +kernel)) ggX12_readLine_X12_readOnce
set_option maxRecDepth 20000 in
theorem ggX12_readLine_X12_bad : GoodIn wsX12_readLine wsX12_bad := goodIn_r _ [28, 6, 29, 30, 31, 97, 98, 99, 100, 101, 102, 103, 104, 105, 106, 107, 108, 109, 110, 111, 112, 113, 114, 115, 116, 117, 118, 119, 120, 121, 122, 123, 124, 125, 126, 127, 128, 129, 130, 131, 132, 133, 134, 135, 136, 137, 138, 139, 140, 141, 142, 143, 144] (by decide +kernel) (by decide +kernel)
set_option maxRecDepth 20000 in
theorem gX12_readLine_X12_bad : GoodIn wsX12_readLine (wsV RX12 72 RX12 yX12_bad wsX12_bad) := goodIn_app (goodIn_of _ (by decide +kernel)) ggX12_readLine_X12_bad
set_option maxRecDepth 20000 in
theorem ggX12_court_X12_begin : GoodIn wsX12_court wsX12_begin := goodIn_r _ [12, 13, 14, 15, 16, 17, 18, 19, 20, 11, 21, 22, 23, 24, 25, 26, 27, 28, 1, 29, 30, 31, 32, 33, 34, 35, 36, 37, 38, 39, 40, 41, 42, 43, 130, 131, 132, 133, 134, 135, 136, 137, 138, 139, 140, 141, 142, 143, 144, 145, 146, 147, 148, 149, 150, 151, 152, 153, 154, 155, 156, 157, 158, 159, 160, 161, 162, 163, 164, 165, 166, 167, 168, 169, 170, 171, 172, 173, 174, 175, 176, 177] (by decide +kernel) (by decide +kernel)
set_option maxRecDepth 20000 in
theorem gX12_court_X12_begin : GoodIn wsX12_court (wsV RX12 218 RX12 yX12_begin wsX12_begin) := goodIn_app (goodIn_of _ (by decide +kernel)) ggX12_court_X12_begin
set_option maxRecDepth 20000 in
theorem ggX12_court_X12_startRead : GoodIn wsX12_court wsX12_startRead := goodIn_r _ [47, 4, 48, 130, 131, 132, 133, 134, 135, 136, 137, 138, 139, 140, 141, 142, 143, 144, 145, 146, 147, 148, 149, 150, 151, 152, 153, 154, 155, 156, 157, 158, 159, 160, 161, 162, 163, 164, 165, 166, 167, 168, 169, 170, 171, 172, 173, 174, 175, 176, 177] (by decide +kernel) (by decide +kernel)
set_option maxRecDepth 20000 in
theorem gX12_court_X12_startRead : GoodIn wsX12_court (wsV RX12 169 RX12 yX12_startRead wsX12_startRead) := goodIn_app (goodIn_of _ (by decide +kernel)) ggX12_court_X12_startRead
set_option maxRecDepth 20000 in
theorem ggX12_court_X12_readLine : GoodIn wsX12_court wsX12_readLine := goodIn_r _ [52, 53, 54, 55, 11, 56, 1, 30, 57, 58, 59, 60, 61, 62, 32, 33, 63, 64, 65, 66, 4, 67, 68, 69, 70, 71, 72, 73, 74, 16, 28, 2, 23, 24, 25, 26, 17, 14, 27, 15, 29, 31, 34, 35, 36, 37, 38, 39, 40, 41, 42, 43, 75, 76, 77, 78, 6, 79, 80, 81, 82, 83, 84, 85, 86, 87, 88, 89, 90, 91, 92, 93, 94, 95, 96, 97, 98, 99, 100, 101, 102, 103, 104, 105, 106, 107, 108, 109, 110, 111, 112, 113, 114, 115, 116, 117, 48, 130, 131, 132, 133, 134, 135, 136, 137, 138, 139, 140, 141, 142, 143, 144, 145, 146, 147, 148, 149, 150, 151, 152, 153, 154, 155, 156, 157, 158, 159, 160, 161, 162, 163, 164, 165, 166, 167, 168, 169, 170, 171, 172, 173, 174, 175, 176, 177] (by decide +kernel) (by decide +kernel)
set_option maxRecDepth 20000 in
theorem gX12_court_X12_readLine : GoodIn wsX12_court (wsV RX12 221 RX12 yX12_readLine wsX12_readLine) := goodIn_app (goodIn_of _ (by decide +kernel)) ggX12_court_X12_readLine
set_option maxRecDepth 20000 in
theorem ggX12_court_X12_readEnd : GoodIn wsX12_court wsX12_readEnd := goodIn_r _ [121, 122, 123, 124, 11, 125, 1, 29, 71, 72, 73, 74, 16, 28, 2, 23, 24, 25, 26, 17, 14, 27, 15, 30, 31, 32, 33, 34, 35, 36, 37, 38, 39, 40, 41, 42, 43, 130, 131, 132, 133, 134, 135, 136, 137, 138, 139, 140, 141, 142, 143, 144, 145, 146, 147, 148, 149, 150, 151, 152, 153, 154, 155, 156, 157, 158, 159, 160, 161, 162, 163, 164, 165, 166, 167, 168, 169, 170, 171, 172, 173, 174, 175, 176, 177] (by decide +kernel) (by decide +kernel)
set_option maxRecDepth 20000 in
theorem gX12_court_X12_readEnd : GoodIn wsX12_court (wsV RX12 224 RX12 yX12_readEnd wsX12_readEnd) := goodIn_app (goodIn_of _ (by decide +kernel)) ggX12_court_X12_readEnd
set_option maxRecDepth 20000 in
theorem ggX12_court_X12_startSo : GoodIn wsX12_court wsX12_startSo := goodIn_r _ [129, 3, 130, 131, 132, 133, 134, 135, 136, 137, 138, 139, 140, 141, 142, 143, 144, 145, 146, 147, 148, 149, 150, 151, 152, 153, 154, 155, 156, 157, 158, 159, 160, 161, 162, 163, 164, 165, 166, 167, 168, 169, 170, 171, 172, 173, 174, 175, 176, 177] (by decide +kernel) (by decide +kernel)
set_option maxRecDepth 20000 in
theorem gX12_court_X12_startSo : GoodIn wsX12_court (wsV RX12 172 RX12 yX12_startSo wsX12_startSo) := goodIn_app (goodIn_of _ (by decide +kernel)) ggX12_court_X12_startSo
set_option maxRecDepth 20000 in
theorem ggX12_isJuror_X12_isIn : GoodIn wsX12_isJuror wsX12_isIn := goodIn_r _ [5] (by decide +kernel) (by decide +kernel)
set_option maxRecDepth 20000 in
theorem gX12_isJuror_X12_isIn : GoodIn wsX12_isJuror (va_wsS RX12 75 yX12_isIn wsX12_isIn) := goodIn_app (goodIn_of _ (by decide +kernel)) ggX12_isJuror_X12_isIn
set_option maxRecDepth 20000 in
theorem ggX12_isFloor_X12_isIn : GoodIn wsX12_isFloor wsX12_isIn := goodIn_r _ [5] (by decide +kernel) (by decide +kernel)
set_option maxRecDepth 20000 in
theorem gX12_isFloor_X12_isIn : GoodIn wsX12_isFloor (va_wsS RX12 75 yX12_isIn wsX12_isIn) := goodIn_app (goodIn_of _ (by decide +kernel)) ggX12_isFloor_X12_isIn
set_option maxRecDepth 20000 in
theorem ggX12_isCase_X12_isIn : GoodIn wsX12_isCase wsX12_isIn := goodIn_r _ [5] (by decide +kernel) (by decide +kernel)
set_option maxRecDepth 20000 in
theorem gX12_isCase_X12_isIn : GoodIn wsX12_isCase (va_wsS RX12 75 yX12_isIn wsX12_isIn) := goodIn_app (goodIn_of _ (by decide +kernel)) ggX12_isCase_X12_isIn
set_option maxRecDepth 20000 in
theorem ggX12_ringOf_X12_ringBy : GoodIn wsX12_ringOf wsX12_ringBy := goodIn_r _ [6, 1, 7, 8, 9, 10, 11, 12, 13, 14, 15, 16, 17, 18, 19, 20, 21, 22, 23, 24, 25, 26, 27, 28, 29, 30, 31, 32, 33, 34, 35, 36, 37, 38, 39, 40, 41, 42, 43, 44, 45, 46, 47, 48, 49, 50, 51, 52, 53, 54] (by decide +kernel) (by decide +kernel)
set_option maxRecDepth 20000 in
theorem gX12_ringOf_X12_ringBy : GoodIn wsX12_ringOf (wsV RX12 230 RX12 yX12_ringBy wsX12_ringBy) := goodIn_app (goodIn_of _ (by decide +kernel)) ggX12_ringOf_X12_ringBy
set_option maxRecDepth 20000 in
theorem ggX12_layRings_X12_has : GoodIn wsX12_layRings wsX12_has := goodIn_r _ [7] (by decide +kernel) (by decide +kernel)
set_option maxRecDepth 20000 in
theorem gX12_layRings_X12_has : GoodIn wsX12_layRings (va_wsS RX12 240 yX12_has wsX12_has) := goodIn_app (goodIn_of _ (by decide +kernel)) ggX12_layRings_X12_has
set_option maxRecDepth 20000 in
theorem ggX12_layRings_X12_ringBy : GoodIn wsX12_layRings wsX12_ringBy := goodIn_r _ [11, 3, 12, 13, 14, 15, 16, 17, 18, 19, 20, 21, 22, 23, 24, 25, 26, 27, 28, 29, 30, 31, 32, 33, 34, 35, 36, 37, 38, 39, 40, 41, 42, 43, 44, 45, 46, 47, 48, 49, 50, 51, 52, 53, 54, 55, 56, 57, 58, 59] (by decide +kernel) (by decide +kernel)
set_option maxRecDepth 20000 in
theorem gX12_layRings_X12_ringBy : GoodIn wsX12_layRings (wsV RX12 230 RX12 yX12_ringBy wsX12_ringBy) := goodIn_app (goodIn_of _ (by decide +kernel)) ggX12_layRings_X12_ringBy
set_option maxRecDepth 20000 in
theorem ggX12_isOneRing_X12_layRings : GoodIn wsX12_isOneRing wsX12_layRings := goodIn_r _ [8, 2, 1, 3, 9, 10, 7, 11, 12, 13, 14, 15, 16, 17, 18, 19, 20, 21, 22, 23, 24, 25, 26, 27, 28, 29, 30, 31, 32, 33, 34, 35, 36, 37, 38, 39, 40, 41, 42, 43, 44, 45, 46, 47, 48, 49, 50, 51, 52, 53, 54, 55, 56, 57, 58, 59, 60, 61, 62, 63] (by decide +kernel) (by decide +kernel)
set_option maxRecDepth 20000 in
theorem gX12_isOneRing_X12_layRings : GoodIn wsX12_isOneRing (wsV RX12 243 RX12 yX12_layRings wsX12_layRings) := goodIn_app (goodIn_of _ (by decide +kernel)) ggX12_isOneRing_X12_layRings
set_option maxRecDepth 20000 in
theorem ggX12_isOneRing__X12_isOneRing : GoodIn wsX12_isOneRing_ wsX12_isOneRing := goodIn_r _ [5, 6, 7, 8, 9, 10, 11, 4, 12, 13, 14, 15, 16, 17, 18, 19, 20, 21, 22, 23, 24, 25, 26, 27, 28, 29, 30, 31, 32, 33, 34, 35, 36, 37, 38, 39, 40, 41, 42, 43, 44, 45, 46, 47, 48, 49, 50, 51, 52, 53, 54, 55, 56, 57, 58, 59, 60, 61, 62, 63, 64, 65, 66, 67] (by decide +kernel) (by decide +kernel)
set_option maxRecDepth 20000 in
theorem gX12_isOneRing__X12_isOneRing : GoodIn wsX12_isOneRing_ (wsV RX12 246 RX12 yX12_isOneRing wsX12_isOneRing) := goodIn_app (goodIn_of _ (by decide +kernel)) ggX12_isOneRing__X12_isOneRing
set_option maxRecDepth 20000 in
theorem ggX12_juror_X12_isJuror : GoodIn wsX12_juror wsX12_isJuror := goodIn_r _ [7, 2, 8, 9, 6, 10, 18, 19, 20, 21, 22, 23, 24, 25, 26, 27, 28, 29, 30, 31, 32, 33, 34, 35, 36, 37, 38, 39, 40, 41, 42, 43, 44, 45, 46, 47, 48, 49, 50, 51, 52, 53, 54, 55, 56, 57, 58, 59, 60, 61, 62, 63, 64, 65] (by decide +kernel) (by decide +kernel)
set_option maxRecDepth 20000 in
theorem gX12_juror_X12_isJuror : GoodIn wsX12_juror (wsV RX12 249 RX12 yX12_isJuror wsX12_isJuror) := goodIn_app (goodIn_of _ (by decide +kernel)) ggX12_juror_X12_isJuror
set_option maxRecDepth 20000 in
theorem ggX12_juror_X12_refuse : GoodIn wsX12_juror wsX12_refuse := goodIn_r _ [14, 1, 18, 19, 20, 21, 22, 23, 24, 25, 26, 27, 28, 29, 30, 31, 32, 33, 34, 35, 36, 37, 38, 39, 40, 41, 42, 43, 44, 45, 46, 47, 48, 49, 50, 51, 52, 53, 54, 55, 56, 57, 58, 59, 60, 61, 62, 63, 64, 65] (by decide +kernel) (by decide +kernel)
set_option maxRecDepth 20000 in
theorem gX12_juror_X12_refuse : GoodIn wsX12_juror (wsV RX12 252 RX12 yX12_refuse wsX12_refuse) := goodIn_app (goodIn_of _ (by decide +kernel)) ggX12_juror_X12_refuse
set_option maxRecDepth 20000 in
theorem ggX12_juror_X12_has : GoodIn wsX12_juror wsX12_has := goodIn_r _ [17] (by decide +kernel) (by decide +kernel)
set_option maxRecDepth 20000 in
theorem gX12_juror_X12_has : GoodIn wsX12_juror (va_wsS RX12 240 yX12_has wsX12_has) := goodIn_app (goodIn_of _ (by decide +kernel)) ggX12_juror_X12_has
set_option maxRecDepth 20000 in
theorem ggX12_trial_X12_isCase : GoodIn wsX12_trial wsX12_isCase := goodIn_r _ [7, 2, 8, 9, 6, 10, 19, 20, 21, 22, 23, 24, 25, 26, 27, 28, 29, 30, 31, 32, 33, 34, 35, 36, 37, 38, 39, 40, 41, 42, 43, 44, 45, 46, 47, 48, 49, 50, 51, 52, 53, 54, 55, 56, 57, 58, 59, 60, 61, 62, 63, 64, 65, 66] (by decide +kernel) (by decide +kernel)
set_option maxRecDepth 20000 in
theorem gX12_trial_X12_isCase : GoodIn wsX12_trial (wsV RX12 255 RX12 yX12_isCase wsX12_isCase) := goodIn_app (goodIn_of _ (by decide +kernel)) ggX12_trial_X12_isCase
set_option maxRecDepth 20000 in
theorem ggX12_trial_X12_refuse : GoodIn wsX12_trial wsX12_refuse := goodIn_r _ [14, 1, 19, 20, 21, 22, 23, 24, 25, 26, 27, 28, 29, 30, 31, 32, 33, 34, 35, 36, 37, 38, 39, 40, 41, 42, 43, 44, 45, 46, 47, 48, 49, 50, 51, 52, 53, 54, 55, 56, 57, 58, 59, 60, 61, 62, 63, 64, 65, 66] (by decide +kernel) (by decide +kernel)
set_option maxRecDepth 20000 in
theorem gX12_trial_X12_refuse : GoodIn wsX12_trial (wsV RX12 252 RX12 yX12_refuse wsX12_refuse) := goodIn_app (goodIn_of _ (by decide +kernel)) ggX12_trial_X12_refuse
set_option maxRecDepth 20000 in
theorem ggX12_trial_X12_floorOf : GoodIn wsX12_trial wsX12_floorOf := goodIn_r _ [18, 2, 19, 20, 21, 22, 23, 24, 25, 26, 27, 28, 29, 30, 31, 32, 33, 34, 35, 36, 37, 38, 39, 40, 41, 42, 43, 44, 45, 46, 47, 48, 49, 50, 51, 52, 53, 54, 55, 56, 57, 58, 59, 60, 61, 62, 63, 64, 65, 66] (by decide +kernel) (by decide +kernel)
set_option maxRecDepth 20000 in
theorem gX12_trial_X12_floorOf : GoodIn wsX12_trial (wsV RX12 258 RX12 yX12_floorOf wsX12_floorOf) := goodIn_app (goodIn_of _ (by decide +kernel)) ggX12_trial_X12_floorOf
set_option maxRecDepth 20000 in
theorem ggX12_ring_X12_isJuror : GoodIn wsX12_ring wsX12_isJuror := goodIn_r _ [6, 7, 8, 9, 5, 10, 23, 24, 25, 26, 27, 28, 29, 30, 31, 32, 33, 34, 35, 36, 37, 38, 39, 40, 41, 42, 43, 44, 45, 46, 47, 48, 49, 50, 51, 52, 53, 54, 55, 56, 57, 58, 59, 60, 61, 62, 63, 64, 65, 66, 67, 68, 69, 70] (by decide +kernel) (by decide +kernel)
set_option maxRecDepth 20000 in
theorem gX12_ring_X12_isJuror : GoodIn wsX12_ring (wsV RX12 249 RX12 yX12_isJuror wsX12_isJuror) := goodIn_app (goodIn_of _ (by decide +kernel)) ggX12_ring_X12_isJuror
set_option maxRecDepth 20000 in
theorem ggX12_ring_X12_isFloor : GoodIn wsX12_ring wsX12_isFloor := goodIn_r _ [14, 7, 8, 9, 5, 10, 23, 24, 25, 26, 27, 28, 29, 30, 31, 32, 33, 34, 35, 36, 37, 38, 39, 40, 41, 42, 43, 44, 45, 46, 47, 48, 49, 50, 51, 52, 53, 54, 55, 56, 57, 58, 59, 60, 61, 62, 63, 64, 65, 66, 67, 68, 69, 70] (by decide +kernel) (by decide +kernel)
set_option maxRecDepth 20000 in
theorem gX12_ring_X12_isFloor : GoodIn wsX12_ring (wsV RX12 261 RX12 yX12_isFloor wsX12_isFloor) := goodIn_app (goodIn_of _ (by decide +kernel)) ggX12_ring_X12_isFloor
set_option maxRecDepth 20000 in
theorem ggX12_ring_X12_ringOf : GoodIn wsX12_ring wsX12_ringOf := goodIn_r _ [18, 7, 19, 20, 21, 5, 22, 23, 24, 25, 26, 27, 28, 29, 30, 31, 32, 33, 34, 35, 36, 37, 38, 39, 40, 41, 42, 43, 44, 45, 46, 47, 48, 49, 50, 51, 52, 53, 54, 55, 56, 57, 58, 59, 60, 61, 62, 63, 64, 65, 66, 67, 68, 69, 70] (by decide +kernel) (by decide +kernel)
set_option maxRecDepth 20000 in
theorem gX12_ring_X12_ringOf : GoodIn wsX12_ring (wsV RX12 264 RX12 yX12_ringOf wsX12_ringOf) := goodIn_app (goodIn_of _ (by decide +kernel)) ggX12_ring_X12_ringOf
set_option maxRecDepth 20000 in
theorem ggX12_lasts_X12_isJuror : GoodIn wsX12_lasts wsX12_isJuror := goodIn_r _ [6, 7, 8, 9, 5, 10, 19, 20, 21, 22, 23, 24, 25, 26, 27, 28, 29, 30, 31, 32, 33, 34, 35, 36, 37, 38, 39, 40, 41, 42, 43, 44, 45, 46, 47, 48, 49, 50, 51, 52, 53, 54, 55, 56, 57, 58, 59, 60, 61, 62, 63, 64, 65, 66] (by decide +kernel) (by decide +kernel)
set_option maxRecDepth 20000 in
theorem gX12_lasts_X12_isJuror : GoodIn wsX12_lasts (wsV RX12 249 RX12 yX12_isJuror wsX12_isJuror) := goodIn_app (goodIn_of _ (by decide +kernel)) ggX12_lasts_X12_isJuror
set_option maxRecDepth 20000 in
theorem ggX12_lasts_X12_isFloor : GoodIn wsX12_lasts wsX12_isFloor := goodIn_r _ [14, 7, 8, 9, 5, 10, 19, 20, 21, 22, 23, 24, 25, 26, 27, 28, 29, 30, 31, 32, 33, 34, 35, 36, 37, 38, 39, 40, 41, 42, 43, 44, 45, 46, 47, 48, 49, 50, 51, 52, 53, 54, 55, 56, 57, 58, 59, 60, 61, 62, 63, 64, 65, 66] (by decide +kernel) (by decide +kernel)
set_option maxRecDepth 20000 in
theorem gX12_lasts_X12_isFloor : GoodIn wsX12_lasts (wsV RX12 261 RX12 yX12_isFloor wsX12_isFloor) := goodIn_app (goodIn_of _ (by decide +kernel)) ggX12_lasts_X12_isFloor
set_option maxRecDepth 20000 in
theorem ggX12_lasts_X12_lastsOf : GoodIn wsX12_lasts wsX12_lastsOf := goodIn_r _ [18, 7, 19, 20, 21, 22, 23, 24, 25, 26, 27, 28, 29, 30, 31, 32, 33, 34, 35, 36, 37, 38, 39, 40, 41, 42, 43, 44, 45, 46, 47, 48, 49, 50, 51, 52, 53, 54, 55, 56, 57, 58, 59, 60, 61, 62, 63, 64, 65, 66] (by decide +kernel) (by decide +kernel)
set_option maxRecDepth 20000 in
theorem gX12_lasts_X12_lastsOf : GoodIn wsX12_lasts (wsV RX12 268 RX12 yX12_lastsOf wsX12_lastsOf) := goodIn_app (goodIn_of _ (by decide +kernel)) ggX12_lasts_X12_lastsOf
set_option maxRecDepth 20000 in
theorem ggX12_now_X12_casesThat : GoodIn wsX12_now wsX12_casesThat := goodIn_r _ [7, 2, 8, 9, 10, 11, 12, 13, 14, 15, 16, 17, 18, 19, 20, 21, 22, 23, 24, 25, 26, 27, 28, 29, 30, 31, 32, 33, 34, 35, 36, 37, 38, 39, 40, 41, 42, 43, 44, 45, 46, 47, 48, 49, 50, 51, 52, 53, 54, 55] (by decide +kernel) (by decide +kernel)
set_option maxRecDepth 20000 in
theorem gX12_now_X12_casesThat : GoodIn wsX12_now (wsV RX12 271 RX12 yX12_casesThat wsX12_casesThat) := goodIn_app (goodIn_of _ (by decide +kernel)) ggX12_now_X12_casesThat
set_option maxRecDepth 20000 in
theorem ggX12_why_X12_has : GoodIn wsX12_why wsX12_has := goodIn_r _ [5] (by decide +kernel) (by decide +kernel)
set_option maxRecDepth 20000 in
theorem gX12_why_X12_has : GoodIn wsX12_why (va_wsS RX12 240 yX12_has wsX12_has) := goodIn_app (goodIn_of _ (by decide +kernel)) ggX12_why_X12_has
set_option maxRecDepth 20000 in
theorem ggX12_why_X12_droppers : GoodIn wsX12_why wsX12_droppers := goodIn_r _ [9, 1, 10, 11, 12, 13, 14, 15, 16, 17, 18, 19, 20, 21, 22, 23, 24, 25, 26, 27, 28, 29, 30, 31, 32, 33, 34, 35, 36, 37, 38, 39, 40, 41, 42, 43, 44, 45, 46, 47, 48, 49, 50, 51, 52, 53, 54, 55, 56, 57] (by decide +kernel) (by decide +kernel)
set_option maxRecDepth 20000 in
theorem gX12_why_X12_droppers : GoodIn wsX12_why (wsV RX12 274 RX12 yX12_droppers wsX12_droppers) := goodIn_app (goodIn_of _ (by decide +kernel)) ggX12_why_X12_droppers
set_option maxRecDepth 20000 in
theorem ggX12_tryOne_X12_droppers : GoodIn wsX12_tryOne wsX12_droppers := goodIn_r _ [6, 1, 35, 36, 37, 38, 39, 40, 41, 42, 43, 44, 45, 46, 47, 48, 49, 50, 51, 52, 53, 54, 55, 56, 57, 58, 59, 60, 61, 62, 63, 64, 65, 66, 67, 68, 69, 70, 71, 72, 73, 74, 75, 76, 77, 78, 79, 80, 81, 82] (by decide +kernel) (by decide +kernel)
set_option maxRecDepth 20000 in
theorem gX12_tryOne_X12_droppers : GoodIn wsX12_tryOne (wsV RX12 274 RX12 yX12_droppers wsX12_droppers) := goodIn_app (goodIn_of _ (by decide +kernel)) ggX12_tryOne_X12_droppers
set_option maxRecDepth 20000 in
theorem ggX12_tryOne_X12_floorOf : GoodIn wsX12_tryOne wsX12_floorOf := goodIn_r _ [10, 1, 35, 36, 37, 38, 39, 40, 41, 42, 43, 44, 45, 46, 47, 48, 49, 50, 51, 52, 53, 54, 55, 56, 57, 58, 59, 60, 61, 62, 63, 64, 65, 66, 67, 68, 69, 70, 71, 72, 73, 74, 75, 76, 77, 78, 79, 80, 81, 82] (by decide +kernel) (by decide +kernel)
set_option maxRecDepth 20000 in
theorem gX12_tryOne_X12_floorOf : GoodIn wsX12_tryOne (wsV RX12 258 RX12 yX12_floorOf wsX12_floorOf) := goodIn_app (goodIn_of _ (by decide +kernel)) ggX12_tryOne_X12_floorOf
set_option maxRecDepth 20000 in
theorem ggX12_tryOne_X12_isOneRing_ : GoodIn wsX12_tryOne wsX12_isOneRing_ := goodIn_r _ [14, 15, 16, 17, 5, 18, 19, 20, 1, 21, 22, 23, 24, 25, 26, 27, 28, 29, 30, 31, 35, 36, 37, 38, 39, 40, 41, 42, 43, 44, 45, 46, 47, 48, 49, 50, 51, 52, 53, 54, 55, 56, 57, 58, 59, 60, 61, 62, 63, 64, 65, 66, 67, 68, 69, 70, 71, 72, 73, 74, 75, 76, 77, 78, 79, 80, 81, 82] (by decide +kernel) (by decide +kernel)
set_option maxRecDepth 20000 in
theorem gX12_tryOne_X12_isOneRing_ : GoodIn wsX12_tryOne (wsV RX12 277 RX12 yX12_isOneRing_ wsX12_isOneRing_) := goodIn_app (goodIn_of _ (by decide +kernel)) ggX12_tryOne_X12_isOneRing_
set_option maxRecDepth 20000 in
theorem ggX12_tryOne_X12_has : GoodIn wsX12_tryOne wsX12_has := goodIn_r _ [27] (by decide +kernel) (by decide +kernel)
set_option maxRecDepth 20000 in
theorem gX12_tryOne_X12_has : GoodIn wsX12_tryOne (va_wsS RX12 240 yX12_has wsX12_has) := goodIn_app (goodIn_of _ (by decide +kernel)) ggX12_tryOne_X12_has
set_option maxRecDepth 20000 in
theorem ggX12_tryOne_X12_least : GoodIn wsX12_tryOne wsX12_least := goodIn_r _ [34] (by decide +kernel) (by decide +kernel)
set_option maxRecDepth 20000 in
theorem gX12_tryOne_X12_least : GoodIn wsX12_tryOne (va_wsS RX12 279 yX12_least wsX12_least) := goodIn_app (goodIn_of _ (by decide +kernel)) ggX12_tryOne_X12_least
set_option maxRecDepth 20000 in
theorem ggX12_live_X12_tryOne : GoodIn wsX12_live wsX12_tryOne := goodIn_r _ [6, 1, 7, 8, 9, 5, 10, 11, 12, 13, 14, 15, 16, 17, 18, 19, 20, 21, 22, 23, 24, 25, 26, 27, 28, 29, 30, 31, 32, 33, 34, 35, 36, 37, 38, 39, 40, 41, 42, 43, 44, 45, 46, 47, 48, 49, 50, 51, 52, 53, 54, 55, 56, 57, 58, 59, 60, 61, 62, 63, 64, 65, 66, 67, 68, 69, 70, 71, 72, 73, 74, 75, 76, 77, 78, 79, 80, 81, 82, 83, 84, 85, 86] (by decide +kernel) (by decide +kernel)
set_option maxRecDepth 20000 in
theorem gX12_live_X12_tryOne : GoodIn wsX12_live (wsV RX12 282 RX12 yX12_tryOne wsX12_tryOne) := goodIn_app (goodIn_of _ (by decide +kernel)) ggX12_live_X12_tryOne
set_option maxRecDepth 20000 in
theorem ggX12_act_X12_why : GoodIn wsX12_act wsX12_why := goodIn_r _ [5, 6, 7, 8, 4, 9, 10, 11, 12, 13, 53, 54, 55, 56, 57, 58, 59, 60, 61, 62, 63, 64, 65, 66, 67, 68, 69, 70, 71, 72, 73, 74, 75, 76, 77, 78, 79, 80, 81, 82, 83, 84, 85, 86, 87, 88, 89, 90, 91, 92, 93, 94, 95, 96, 97, 98, 99, 100] (by decide +kernel) (by decide +kernel)
set_option maxRecDepth 20000 in
theorem gX12_act_X12_why : GoodIn wsX12_act (wsV RX12 285 RX12 yX12_why wsX12_why) := goodIn_app (goodIn_of _ (by decide +kernel)) ggX12_act_X12_why
set_option maxRecDepth 20000 in
theorem ggX12_act_X12_snap : GoodIn wsX12_act wsX12_snap := goodIn_r _ [17, 18, 19, 6, 53, 54, 55, 56, 57, 58, 59, 60, 61, 62, 63, 64, 65, 66, 67, 68, 69, 70, 71, 72, 73, 74, 75, 76, 77, 78, 79, 80, 81, 82, 83, 84, 85, 86, 87, 88, 89, 90, 91, 92, 93, 94, 95, 96, 97, 98, 99, 100] (by decide +kernel) (by decide +kernel)
set_option maxRecDepth 20000 in
theorem gX12_act_X12_snap : GoodIn wsX12_act (wsV RX12 288 RX12 yX12_snap wsX12_snap) := goodIn_app (goodIn_of _ (by decide +kernel)) ggX12_act_X12_snap
set_option maxRecDepth 20000 in
theorem ggX12_act_X12_live : GoodIn wsX12_act wsX12_live := goodIn_r _ [23, 6, 24, 25, 26, 4, 27, 10, 11, 12, 13, 28, 29, 30, 31, 32, 33, 34, 35, 36, 37, 38, 39, 40, 41, 42, 43, 44, 45, 7, 8, 9, 46, 47, 48, 49, 50, 51, 52, 53, 54, 55, 56, 57, 58, 59, 60, 61, 62, 63, 64, 65, 66, 67, 68, 69, 70, 71, 72, 73, 74, 75, 76, 77, 78, 79, 80, 81, 82, 83, 84, 85, 86, 87, 88, 89, 90, 91, 92, 93, 94, 95, 96, 97, 98, 99, 100] (by decide +kernel) (by decide +kernel)
set_option maxRecDepth 20000 in
theorem gX12_act_X12_live : GoodIn wsX12_act (wsV RX12 291 RX12 yX12_live wsX12_live) := goodIn_app (goodIn_of _ (by decide +kernel)) ggX12_act_X12_live
set_option maxRecDepth 20000 in
theorem ggX12_sit_X12_isJuror : GoodIn wsX12_sit wsX12_isJuror := goodIn_r _ [6, 7, 8, 9, 5, 10, 65, 66, 67, 68, 69, 70, 71, 72, 73, 74, 75, 76, 77, 78, 79, 80, 81, 82, 83, 84, 85, 86, 87, 88, 89, 90, 91, 92, 93, 94, 95, 96, 97, 98, 99, 100, 101, 102, 103, 104, 105, 106, 107, 108, 109, 110, 111, 112] (by decide +kernel) (by decide +kernel)
set_option maxRecDepth 20000 in
theorem gX12_sit_X12_isJuror : GoodIn wsX12_sit (wsV RX12 249 RX12 yX12_isJuror wsX12_isJuror) := goodIn_app (goodIn_of _ (by decide +kernel)) ggX12_sit_X12_isJuror
set_option maxRecDepth 20000 in
theorem ggX12_sit_X12_act : GoodIn wsX12_sit wsX12_act := goodIn_r _ [14, 15, 16, 17, 5, 18, 7, 19, 20, 21, 22, 23, 24, 25, 26, 27, 28, 29, 30, 31, 32, 33, 34, 35, 36, 37, 38, 39, 40, 41, 42, 43, 44, 45, 46, 47, 48, 49, 50, 51, 52, 53, 54, 55, 56, 57, 58, 59, 60, 61, 62, 63, 64, 65, 66, 67, 68, 69, 70, 71, 72, 73, 74, 75, 76, 77, 78, 79, 80, 81, 82, 83, 84, 85, 86, 87, 88, 89, 90, 91, 92, 93, 94, 95, 96, 97, 98, 99, 100, 101, 102, 103, 104, 105, 106, 107, 108, 109, 110, 111, 112] (by decide +kernel) (by decide +kernel)
set_option maxRecDepth 20000 in
theorem gX12_sit_X12_act : GoodIn wsX12_sit (wsV RX12 295 RX12 yX12_act wsX12_act) := goodIn_app (goodIn_of _ (by decide +kernel)) ggX12_sit_X12_act
set_option maxRecDepth 20000 in
theorem ggX12_rise_X12_isJuror : GoodIn wsX12_rise wsX12_isJuror := goodIn_r _ [6, 7, 8, 9, 5, 10, 65, 66, 67, 68, 69, 70, 71, 72, 73, 74, 75, 76, 77, 78, 79, 80, 81, 82, 83, 84, 85, 86, 87, 88, 89, 90, 91, 92, 93, 94, 95, 96, 97, 98, 99, 100, 101, 102, 103, 104, 105, 106, 107, 108, 109, 110, 111, 112] (by decide +kernel) (by decide +kernel)
set_option maxRecDepth 20000 in
theorem gX12_rise_X12_isJuror : GoodIn wsX12_rise (wsV RX12 249 RX12 yX12_isJuror wsX12_isJuror) := goodIn_app (goodIn_of _ (by decide +kernel)) ggX12_rise_X12_isJuror
set_option maxRecDepth 20000 in
theorem ggX12_rise_X12_act : GoodIn wsX12_rise wsX12_act := goodIn_r _ [14, 15, 16, 17, 5, 18, 7, 19, 20, 21, 22, 23, 24, 25, 26, 27, 28, 29, 30, 31, 32, 33, 34, 35, 36, 37, 38, 39, 40, 41, 42, 43, 44, 45, 46, 47, 48, 49, 50, 51, 52, 53, 54, 55, 56, 57, 58, 59, 60, 61, 62, 63, 64, 65, 66, 67, 68, 69, 70, 71, 72, 73, 74, 75, 76, 77, 78, 79, 80, 81, 82, 83, 84, 85, 86, 87, 88, 89, 90, 91, 92, 93, 94, 95, 96, 97, 98, 99, 100, 101, 102, 103, 104, 105, 106, 107, 108, 109, 110, 111, 112] (by decide +kernel) (by decide +kernel)
set_option maxRecDepth 20000 in
theorem gX12_rise_X12_act : GoodIn wsX12_rise (wsV RX12 295 RX12 yX12_act wsX12_act) := goodIn_app (goodIn_of _ (by decide +kernel)) ggX12_rise_X12_act
set_option maxRecDepth 20000 in
theorem ggX12_hold_X12_isJuror : GoodIn wsX12_hold wsX12_isJuror := goodIn_r _ [6, 7, 8, 9, 5, 10, 65, 66, 67, 68, 69, 70, 71, 72, 73, 74, 75, 76, 77, 78, 79, 80, 81, 82, 83, 84, 85, 86, 87, 88, 89, 90, 91, 92, 93, 94, 95, 96, 97, 98, 99, 100, 101, 102, 103, 104, 105, 106, 107, 108, 109, 110, 111, 112] (by decide +kernel) (by decide +kernel)
set_option maxRecDepth 20000 in
theorem gX12_hold_X12_isJuror : GoodIn wsX12_hold (wsV RX12 249 RX12 yX12_isJuror wsX12_isJuror) := goodIn_app (goodIn_of _ (by decide +kernel)) ggX12_hold_X12_isJuror
set_option maxRecDepth 20000 in
theorem ggX12_hold_X12_act : GoodIn wsX12_hold wsX12_act := goodIn_r _ [14, 15, 16, 17, 5, 18, 7, 19, 20, 21, 22, 23, 24, 25, 26, 27, 28, 29, 30, 31, 32, 33, 34, 35, 36, 37, 38, 39, 40, 41, 42, 43, 44, 45, 46, 47, 48, 49, 50, 51, 52, 53, 54, 55, 56, 57, 58, 59, 60, 61, 62, 63, 64, 65, 66, 67, 68, 69, 70, 71, 72, 73, 74, 75, 76, 77, 78, 79, 80, 81, 82, 83, 84, 85, 86, 87, 88, 89, 90, 91, 92, 93, 94, 95, 96, 97, 98, 99, 100, 101, 102, 103, 104, 105, 106, 107, 108, 109, 110, 111, 112] (by decide +kernel) (by decide +kernel)
set_option maxRecDepth 20000 in
theorem gX12_hold_X12_act : GoodIn wsX12_hold (wsV RX12 295 RX12 yX12_act wsX12_act) := goodIn_app (goodIn_of _ (by decide +kernel)) ggX12_hold_X12_act
set_option maxRecDepth 20000 in
theorem ggX12_drop_X12_isJuror : GoodIn wsX12_drop wsX12_isJuror := goodIn_r _ [6, 7, 8, 9, 5, 10, 65, 66, 67, 68, 69, 70, 71, 72, 73, 74, 75, 76, 77, 78, 79, 80, 81, 82, 83, 84, 85, 86, 87, 88, 89, 90, 91, 92, 93, 94, 95, 96, 97, 98, 99, 100, 101, 102, 103, 104, 105, 106, 107, 108, 109, 110, 111, 112] (by decide +kernel) (by decide +kernel)
set_option maxRecDepth 20000 in
theorem gX12_drop_X12_isJuror : GoodIn wsX12_drop (wsV RX12 249 RX12 yX12_isJuror wsX12_isJuror) := goodIn_app (goodIn_of _ (by decide +kernel)) ggX12_drop_X12_isJuror
set_option maxRecDepth 20000 in
theorem ggX12_drop_X12_act : GoodIn wsX12_drop wsX12_act := goodIn_r _ [14, 15, 16, 17, 5, 18, 7, 19, 20, 21, 22, 23, 24, 25, 26, 27, 28, 29, 30, 31, 32, 33, 34, 35, 36, 37, 38, 39, 40, 41, 42, 43, 44, 45, 46, 47, 48, 49, 50, 51, 52, 53, 54, 55, 56, 57, 58, 59, 60, 61, 62, 63, 64, 65, 66, 67, 68, 69, 70, 71, 72, 73, 74, 75, 76, 77, 78, 79, 80, 81, 82, 83, 84, 85, 86, 87, 88, 89, 90, 91, 92, 93, 94, 95, 96, 97, 98, 99, 100, 101, 102, 103, 104, 105, 106, 107, 108, 109, 110, 111, 112] (by decide +kernel) (by decide +kernel)
set_option maxRecDepth 20000 in
theorem gX12_drop_X12_act : GoodIn wsX12_drop (wsV RX12 295 RX12 yX12_act wsX12_act) := goodIn_app (goodIn_of _ (by decide +kernel)) ggX12_drop_X12_act
set_option maxRecDepth 20000 in
theorem ggX12_beat_X12_isJuror : GoodIn wsX12_beat wsX12_isJuror := goodIn_r _ [6, 7, 8, 9, 5, 10, 65, 66, 67, 68, 69, 70, 71, 72, 73, 74, 75, 76, 77, 78, 79, 80, 81, 82, 83, 84, 85, 86, 87, 88, 89, 90, 91, 92, 93, 94, 95, 96, 97, 98, 99, 100, 101, 102, 103, 104, 105, 106, 107, 108, 109, 110, 111, 112] (by decide +kernel) (by decide +kernel)
set_option maxRecDepth 20000 in
theorem gX12_beat_X12_isJuror : GoodIn wsX12_beat (wsV RX12 249 RX12 yX12_isJuror wsX12_isJuror) := goodIn_app (goodIn_of _ (by decide +kernel)) ggX12_beat_X12_isJuror
set_option maxRecDepth 20000 in
theorem ggX12_beat_X12_act : GoodIn wsX12_beat wsX12_act := goodIn_r _ [14, 15, 16, 17, 5, 18, 7, 19, 20, 21, 22, 23, 24, 25, 26, 27, 28, 29, 30, 31, 32, 33, 34, 35, 36, 37, 38, 39, 40, 41, 42, 43, 44, 45, 46, 47, 48, 49, 50, 51, 52, 53, 54, 55, 56, 57, 58, 59, 60, 61, 62, 63, 64, 65, 66, 67, 68, 69, 70, 71, 72, 73, 74, 75, 76, 77, 78, 79, 80, 81, 82, 83, 84, 85, 86, 87, 88, 89, 90, 91, 92, 93, 94, 95, 96, 97, 98, 99, 100, 101, 102, 103, 104, 105, 106, 107, 108, 109, 110, 111, 112] (by decide +kernel) (by decide +kernel)
set_option maxRecDepth 20000 in
theorem gX12_beat_X12_act : GoodIn wsX12_beat (wsV RX12 295 RX12 yX12_act wsX12_act) := goodIn_app (goodIn_of _ (by decide +kernel)) ggX12_beat_X12_act
set_option maxRecDepth 20000 in
theorem ggX12_tryCase_X12_isCase : GoodIn wsX12_tryCase wsX12_isCase := goodIn_r _ [6, 7, 8, 9, 5, 10, 65, 66, 67, 68, 69, 70, 71, 72, 73, 74, 75, 76, 77, 78, 79, 80, 81, 82, 83, 84, 85, 86, 87, 88, 89, 90, 91, 92, 93, 94, 95, 96, 97, 98, 99, 100, 101, 102, 103, 104, 105, 106, 107, 108, 109, 110, 111, 112] (by decide +kernel) (by decide +kernel)
set_option maxRecDepth 20000 in
theorem gX12_tryCase_X12_isCase : GoodIn wsX12_tryCase (wsV RX12 255 RX12 yX12_isCase wsX12_isCase) := goodIn_app (goodIn_of _ (by decide +kernel)) ggX12_tryCase_X12_isCase
set_option maxRecDepth 20000 in
theorem ggX12_tryCase_X12_act : GoodIn wsX12_tryCase wsX12_act := goodIn_r _ [14, 15, 16, 17, 5, 18, 7, 19, 20, 21, 22, 23, 24, 25, 26, 27, 28, 29, 30, 31, 32, 33, 34, 35, 36, 37, 38, 39, 40, 41, 42, 43, 44, 45, 46, 47, 48, 49, 50, 51, 52, 53, 54, 55, 56, 57, 58, 59, 60, 61, 62, 63, 64, 65, 66, 67, 68, 69, 70, 71, 72, 73, 74, 75, 76, 77, 78, 79, 80, 81, 82, 83, 84, 85, 86, 87, 88, 89, 90, 91, 92, 93, 94, 95, 96, 97, 98, 99, 100, 101, 102, 103, 104, 105, 106, 107, 108, 109, 110, 111, 112] (by decide +kernel) (by decide +kernel)
set_option maxRecDepth 20000 in
theorem gX12_tryCase_X12_act : GoodIn wsX12_tryCase (wsV RX12 295 RX12 yX12_act wsX12_act) := goodIn_app (goodIn_of _ (by decide +kernel)) ggX12_tryCase_X12_act
set_option maxRecDepth 20000 in
theorem ggX12_appeal_X12_isCase : GoodIn wsX12_appeal wsX12_isCase := goodIn_r _ [6, 7, 8, 9, 5, 10, 65, 66, 67, 68, 69, 70, 71, 72, 73, 74, 75, 76, 77, 78, 79, 80, 81, 82, 83, 84, 85, 86, 87, 88, 89, 90, 91, 92, 93, 94, 95, 96, 97, 98, 99, 100, 101, 102, 103, 104, 105, 106, 107, 108, 109, 110, 111, 112] (by decide +kernel) (by decide +kernel)
set_option maxRecDepth 20000 in
theorem gX12_appeal_X12_isCase : GoodIn wsX12_appeal (wsV RX12 255 RX12 yX12_isCase wsX12_isCase) := goodIn_app (goodIn_of _ (by decide +kernel)) ggX12_appeal_X12_isCase
set_option maxRecDepth 20000 in
theorem ggX12_appeal_X12_act : GoodIn wsX12_appeal wsX12_act := goodIn_r _ [14, 15, 16, 17, 5, 18, 7, 19, 20, 21, 22, 23, 24, 25, 26, 27, 28, 29, 30, 31, 32, 33, 34, 35, 36, 37, 38, 39, 40, 41, 42, 43, 44, 45, 46, 47, 48, 49, 50, 51, 52, 53, 54, 55, 56, 57, 58, 59, 60, 61, 62, 63, 64, 65, 66, 67, 68, 69, 70, 71, 72, 73, 74, 75, 76, 77, 78, 79, 80, 81, 82, 83, 84, 85, 86, 87, 88, 89, 90, 91, 92, 93, 94, 95, 96, 97, 98, 99, 100, 101, 102, 103, 104, 105, 106, 107, 108, 109, 110, 111, 112] (by decide +kernel) (by decide +kernel)
set_option maxRecDepth 20000 in
theorem gX12_appeal_X12_act : GoodIn wsX12_appeal (wsV RX12 295 RX12 yX12_act wsX12_act) := goodIn_app (goodIn_of _ (by decide +kernel)) ggX12_appeal_X12_act
set_option maxRecDepth 20000 in
theorem ggX12_passDays_X12_least : GoodIn wsX12_passDays wsX12_least := goodIn_r _ [5] (by decide +kernel) (by decide +kernel)
set_option maxRecDepth 20000 in
theorem gX12_passDays_X12_least : GoodIn wsX12_passDays (va_wsS RX12 279 yX12_least wsX12_least) := goodIn_app (goodIn_of _ (by decide +kernel)) ggX12_passDays_X12_least
set_option maxRecDepth 20000 in
theorem ggX12_days_X12_isIn : GoodIn wsX12_days wsX12_isIn := goodIn_r _ [6] (by decide +kernel) (by decide +kernel)
set_option maxRecDepth 20000 in
theorem gX12_days_X12_isIn : GoodIn wsX12_days (va_wsS RX12 75 yX12_isIn wsX12_isIn) := goodIn_app (goodIn_of _ (by decide +kernel)) ggX12_days_X12_isIn
set_option maxRecDepth 20000 in
theorem ggX12_days_X12_snap : GoodIn wsX12_days wsX12_snap := goodIn_r _ [10, 11, 12, 2, 20, 21, 22, 23, 24, 25, 26, 27, 28, 29, 30, 31, 32, 33, 34, 35, 36, 37, 38, 39, 40, 41, 42, 43, 44, 45, 46, 47, 48, 49, 50, 51, 52, 53, 54, 55, 56, 57, 58, 59, 60, 61, 62, 63, 64, 65, 66, 67] (by decide +kernel) (by decide +kernel)
set_option maxRecDepth 20000 in
theorem gX12_days_X12_snap : GoodIn wsX12_days (wsV RX12 288 RX12 yX12_snap wsX12_snap) := goodIn_app (goodIn_of _ (by decide +kernel)) ggX12_days_X12_snap
set_option maxRecDepth 20000 in
theorem ggX12_days_X12_passDays : GoodIn wsX12_days wsX12_passDays := goodIn_r _ [16, 2, 17, 18, 5, 19, 20, 21, 22, 23, 24, 25, 26, 27, 28, 29, 30, 31, 32, 33, 34, 35, 36, 37, 38, 39, 40, 41, 42, 43, 44, 45, 46, 47, 48, 49, 50, 51, 52, 53, 54, 55, 56, 57, 58, 59, 60, 61, 62, 63, 64, 65, 66, 67] (by decide +kernel) (by decide +kernel)
set_option maxRecDepth 20000 in
theorem gX12_days_X12_passDays : GoodIn wsX12_days (wsV RX12 299 RX12 yX12_passDays wsX12_passDays) := goodIn_app (goodIn_of _ (by decide +kernel)) ggX12_days_X12_passDays
set_option maxRecDepth 20000 in
theorem ggX12_verdict_X12_isCase : GoodIn wsX12_verdict wsX12_isCase := goodIn_r _ [6, 7, 8, 9, 5, 10, 40, 41, 42, 43, 44, 45, 46, 47, 48, 49, 50, 51, 52, 53, 54, 55, 56, 57, 58, 59, 60, 61, 62, 63, 64, 65, 66, 67, 68, 69, 70, 71, 72, 73, 74, 75, 76, 77, 78, 79, 80, 81, 82, 83, 84, 85, 86, 87] (by decide +kernel) (by decide +kernel)
set_option maxRecDepth 20000 in
theorem gX12_verdict_X12_isCase : GoodIn wsX12_verdict (wsV RX12 255 RX12 yX12_isCase wsX12_isCase) := goodIn_app (goodIn_of _ (by decide +kernel)) ggX12_verdict_X12_isCase
set_option maxRecDepth 20000 in
theorem ggX12_verdict_X12_droppers : GoodIn wsX12_verdict wsX12_droppers := goodIn_r _ [14, 7, 40, 41, 42, 43, 44, 45, 46, 47, 48, 49, 50, 51, 52, 53, 54, 55, 56, 57, 58, 59, 60, 61, 62, 63, 64, 65, 66, 67, 68, 69, 70, 71, 72, 73, 74, 75, 76, 77, 78, 79, 80, 81, 82, 83, 84, 85, 86, 87] (by decide +kernel) (by decide +kernel)
set_option maxRecDepth 20000 in
theorem gX12_verdict_X12_droppers : GoodIn wsX12_verdict (wsV RX12 274 RX12 yX12_droppers wsX12_droppers) := goodIn_app (goodIn_of _ (by decide +kernel)) ggX12_verdict_X12_droppers
set_option maxRecDepth 20000 in
theorem ggX12_verdict_X12_floorOf : GoodIn wsX12_verdict wsX12_floorOf := goodIn_r _ [18, 7, 40, 41, 42, 43, 44, 45, 46, 47, 48, 49, 50, 51, 52, 53, 54, 55, 56, 57, 58, 59, 60, 61, 62, 63, 64, 65, 66, 67, 68, 69, 70, 71, 72, 73, 74, 75, 76, 77, 78, 79, 80, 81, 82, 83, 84, 85, 86, 87] (by decide +kernel) (by decide +kernel)
set_option maxRecDepth 20000 in
theorem gX12_verdict_X12_floorOf : GoodIn wsX12_verdict (wsV RX12 258 RX12 yX12_floorOf wsX12_floorOf) := goodIn_app (goodIn_of _ (by decide +kernel)) ggX12_verdict_X12_floorOf
set_option maxRecDepth 20000 in
theorem ggX12_verdict_X12_isOneRing_ : GoodIn wsX12_verdict wsX12_isOneRing_ := goodIn_r _ [22, 23, 24, 25, 5, 26, 27, 28, 7, 29, 30, 31, 32, 33, 34, 35, 36, 37, 38, 39, 40, 41, 42, 43, 44, 45, 46, 47, 48, 49, 50, 51, 52, 53, 54, 55, 56, 57, 58, 59, 60, 61, 62, 63, 64, 65, 66, 67, 68, 69, 70, 71, 72, 73, 74, 75, 76, 77, 78, 79, 80, 81, 82, 83, 84, 85, 86, 87] (by decide +kernel) (by decide +kernel)
set_option maxRecDepth 20000 in
theorem gX12_verdict_X12_isOneRing_ : GoodIn wsX12_verdict (wsV RX12 277 RX12 yX12_isOneRing_ wsX12_isOneRing_) := goodIn_app (goodIn_of _ (by decide +kernel)) ggX12_verdict_X12_isOneRing_
set_option maxRecDepth 20000 in
theorem ggX12_spread_X12_isCase : GoodIn wsX12_spread wsX12_isCase := goodIn_r _ [8, 9, 10, 11, 7, 12, 32, 33, 34, 35, 36, 37, 38, 39, 40, 41, 42, 43, 44, 45, 46, 47, 48, 49, 50, 51, 52, 53, 54, 55, 56, 57, 58, 59, 60, 61, 62, 63, 64, 65, 66, 67, 68, 69, 70, 71, 72, 73, 74, 75, 76, 77, 78, 79] (by decide +kernel) (by decide +kernel)
set_option maxRecDepth 20000 in
theorem gX12_spread_X12_isCase : GoodIn wsX12_spread (wsV RX12 255 RX12 yX12_isCase wsX12_isCase) := goodIn_app (goodIn_of _ (by decide +kernel)) ggX12_spread_X12_isCase
set_option maxRecDepth 20000 in
theorem ggX12_spread_X12_droppers : GoodIn wsX12_spread wsX12_droppers := goodIn_r _ [16, 9, 32, 33, 34, 35, 36, 37, 38, 39, 40, 41, 42, 43, 44, 45, 46, 47, 48, 49, 50, 51, 52, 53, 54, 55, 56, 57, 58, 59, 60, 61, 62, 63, 64, 65, 66, 67, 68, 69, 70, 71, 72, 73, 74, 75, 76, 77, 78, 79] (by decide +kernel) (by decide +kernel)
set_option maxRecDepth 20000 in
theorem gX12_spread_X12_droppers : GoodIn wsX12_spread (wsV RX12 274 RX12 yX12_droppers wsX12_droppers) := goodIn_app (goodIn_of _ (by decide +kernel)) ggX12_spread_X12_droppers
set_option maxRecDepth 20000 in
theorem ggX12_spread_X12_floorOf : GoodIn wsX12_spread wsX12_floorOf := goodIn_r _ [20, 9, 32, 33, 34, 35, 36, 37, 38, 39, 40, 41, 42, 43, 44, 45, 46, 47, 48, 49, 50, 51, 52, 53, 54, 55, 56, 57, 58, 59, 60, 61, 62, 63, 64, 65, 66, 67, 68, 69, 70, 71, 72, 73, 74, 75, 76, 77, 78, 79] (by decide +kernel) (by decide +kernel)
set_option maxRecDepth 20000 in
theorem gX12_spread_X12_floorOf : GoodIn wsX12_spread (wsV RX12 258 RX12 yX12_floorOf wsX12_floorOf) := goodIn_app (goodIn_of _ (by decide +kernel)) ggX12_spread_X12_floorOf
set_option maxRecDepth 20000 in
theorem ggX12_spread_X12_layRings : GoodIn wsX12_spread wsX12_layRings := goodIn_r _ [24, 3, 2, 9, 25, 26, 7, 27, 28, 29, 30, 31, 32, 33, 34, 35, 36, 37, 38, 39, 40, 41, 42, 43, 44, 45, 46, 47, 48, 49, 50, 51, 52, 53, 54, 55, 56, 57, 58, 59, 60, 61, 62, 63, 64, 65, 66, 67, 68, 69, 70, 71, 72, 73, 74, 75, 76, 77, 78, 79] (by decide +kernel) (by decide +kernel)
set_option maxRecDepth 20000 in
theorem gX12_spread_X12_layRings : GoodIn wsX12_spread (wsV RX12 243 RX12 yX12_layRings wsX12_layRings) := goodIn_app (goodIn_of _ (by decide +kernel)) ggX12_spread_X12_layRings
set_option maxRecDepth 20000 in
theorem ggX12_longest_X12_isCase : GoodIn wsX12_longest wsX12_isCase := goodIn_r _ [6, 7, 8, 9, 5, 10, 26, 27, 28, 29, 30, 31, 32, 33, 34, 35, 36, 37, 38, 39, 40, 41, 42, 43, 44, 45, 46, 47, 48, 49, 50, 51, 52, 53, 54, 55, 56, 57, 58, 59, 60, 61, 62, 63, 64, 65, 66, 67, 68, 69, 70, 71, 72, 73] (by decide +kernel) (by decide +kernel)
set_option maxRecDepth 20000 in
theorem gX12_longest_X12_isCase : GoodIn wsX12_longest (wsV RX12 255 RX12 yX12_isCase wsX12_isCase) := goodIn_app (goodIn_of _ (by decide +kernel)) ggX12_longest_X12_isCase
set_option maxRecDepth 20000 in
theorem ggX12_longest_X12_droppers : GoodIn wsX12_longest wsX12_droppers := goodIn_r _ [14, 7, 26, 27, 28, 29, 30, 31, 32, 33, 34, 35, 36, 37, 38, 39, 40, 41, 42, 43, 44, 45, 46, 47, 48, 49, 50, 51, 52, 53, 54, 55, 56, 57, 58, 59, 60, 61, 62, 63, 64, 65, 66, 67, 68, 69, 70, 71, 72, 73] (by decide +kernel) (by decide +kernel)
set_option maxRecDepth 20000 in
theorem gX12_longest_X12_droppers : GoodIn wsX12_longest (wsV RX12 274 RX12 yX12_droppers wsX12_droppers) := goodIn_app (goodIn_of _ (by decide +kernel)) ggX12_longest_X12_droppers
set_option maxRecDepth 20000 in
theorem ggX12_longest_X12_has : GoodIn wsX12_longest wsX12_has := goodIn_r _ [17] (by decide +kernel) (by decide +kernel)
set_option maxRecDepth 20000 in
theorem gX12_longest_X12_has : GoodIn wsX12_longest (va_wsS RX12 240 yX12_has wsX12_has) := goodIn_app (goodIn_of _ (by decide +kernel)) ggX12_longest_X12_has
set_option maxRecDepth 20000 in
theorem ggX12_longest_X12_floorOf : GoodIn wsX12_longest wsX12_floorOf := goodIn_r _ [21, 7, 26, 27, 28, 29, 30, 31, 32, 33, 34, 35, 36, 37, 38, 39, 40, 41, 42, 43, 44, 45, 46, 47, 48, 49, 50, 51, 52, 53, 54, 55, 56, 57, 58, 59, 60, 61, 62, 63, 64, 65, 66, 67, 68, 69, 70, 71, 72, 73] (by decide +kernel) (by decide +kernel)
set_option maxRecDepth 20000 in
theorem gX12_longest_X12_floorOf : GoodIn wsX12_longest (wsV RX12 258 RX12 yX12_floorOf wsX12_floorOf) := goodIn_app (goodIn_of _ (by decide +kernel)) ggX12_longest_X12_floorOf
set_option maxRecDepth 20000 in
theorem ggX12_longest_X12_lastsOf : GoodIn wsX12_longest wsX12_lastsOf := goodIn_r _ [25, 7, 26, 27, 28, 29, 30, 31, 32, 33, 34, 35, 36, 37, 38, 39, 40, 41, 42, 43, 44, 45, 46, 47, 48, 49, 50, 51, 52, 53, 54, 55, 56, 57, 58, 59, 60, 61, 62, 63, 64, 65, 66, 67, 68, 69, 70, 71, 72, 73] (by decide +kernel) (by decide +kernel)
set_option maxRecDepth 20000 in
theorem gX12_longest_X12_lastsOf : GoodIn wsX12_longest (wsV RX12 268 RX12 yX12_lastsOf wsX12_lastsOf) := goodIn_app (goodIn_of _ (by decide +kernel)) ggX12_longest_X12_lastsOf
set_option maxRecDepth 20000 in
theorem ggX12_agree_X12_isFloor : GoodIn wsX12_agree wsX12_isFloor := goodIn_r _ [8, 2, 9, 10, 7, 11, 36, 37, 38, 39, 40, 41, 42, 43, 44, 45, 46, 47, 48, 49, 50, 51, 52, 53, 54, 55, 56, 57, 58, 59, 60, 61, 62, 63, 64, 65, 66, 67, 68, 69, 70, 71, 72, 73, 74, 75, 76, 77, 78, 79, 80, 81, 82, 83] (by decide +kernel) (by decide +kernel)
set_option maxRecDepth 20000 in
theorem gX12_agree_X12_isFloor : GoodIn wsX12_agree (wsV RX12 261 RX12 yX12_isFloor wsX12_isFloor) := goodIn_app (goodIn_of _ (by decide +kernel)) ggX12_agree_X12_isFloor
set_option maxRecDepth 20000 in
theorem ggX12_agree_X12_bits : GoodIn wsX12_agree wsX12_bits := goodIn_r _ [14] (by decide +kernel) (by decide +kernel)
set_option maxRecDepth 20000 in
theorem gX12_agree_X12_bits : GoodIn wsX12_agree (va_wsS RX12 302 yX12_bits wsX12_bits) := goodIn_app (goodIn_of _ (by decide +kernel)) ggX12_agree_X12_bits
set_option maxRecDepth 20000 in
theorem ggX12_agree_X12_isOneRing_ : GoodIn wsX12_agree wsX12_isOneRing_ := goodIn_r _ [18, 19, 20, 21, 7, 22, 23, 24, 2, 25, 26, 27, 28, 29, 30, 31, 32, 33, 34, 35, 36, 37, 38, 39, 40, 41, 42, 43, 44, 45, 46, 47, 48, 49, 50, 51, 52, 53, 54, 55, 56, 57, 58, 59, 60, 61, 62, 63, 64, 65, 66, 67, 68, 69, 70, 71, 72, 73, 74, 75, 76, 77, 78, 79, 80, 81, 82, 83] (by decide +kernel) (by decide +kernel)
set_option maxRecDepth 20000 in
theorem gX12_agree_X12_isOneRing_ : GoodIn wsX12_agree (wsV RX12 277 RX12 yX12_isOneRing_ wsX12_isOneRing_) := goodIn_app (goodIn_of _ (by decide +kernel)) ggX12_agree_X12_isOneRing_
set_option maxRecDepth 20000 in
theorem ggX12_jury_X12_isCase : GoodIn wsX12_jury wsX12_isCase := goodIn_r _ [10, 2, 11, 12, 9, 13, 32, 33, 34, 35, 36, 37, 38, 39, 40, 41, 42, 43, 44, 45, 46, 47, 48, 49, 50, 51, 52, 53, 54, 55, 56, 57, 58, 59, 60, 61, 62, 63, 64, 65, 66, 67, 68, 69, 70, 71, 72, 73, 74, 75, 76, 77, 78, 79] (by decide +kernel) (by decide +kernel)
set_option maxRecDepth 20000 in
theorem gX12_jury_X12_isCase : GoodIn wsX12_jury (wsV RX12 255 RX12 yX12_isCase wsX12_isCase) := goodIn_app (goodIn_of _ (by decide +kernel)) ggX12_jury_X12_isCase
set_option maxRecDepth 20000 in
theorem ggX12_jury_X12_isIn : GoodIn wsX12_jury wsX12_isIn := goodIn_r _ [13] (by decide +kernel) (by decide +kernel)
set_option maxRecDepth 20000 in
theorem gX12_jury_X12_isIn : GoodIn wsX12_jury (va_wsS RX12 75 yX12_isIn wsX12_isIn) := goodIn_app (goodIn_of _ (by decide +kernel)) ggX12_jury_X12_isIn
set_option maxRecDepth 20000 in
theorem ggX12_jury_X12_bits : GoodIn wsX12_jury wsX12_bits := goodIn_r _ [16] (by decide +kernel) (by decide +kernel)
set_option maxRecDepth 20000 in
theorem gX12_jury_X12_bits : GoodIn wsX12_jury (va_wsS RX12 302 yX12_bits wsX12_bits) := goodIn_app (goodIn_of _ (by decide +kernel)) ggX12_jury_X12_bits
set_option maxRecDepth 20000 in
theorem ggX12_jury_X12_floorOf : GoodIn wsX12_jury wsX12_floorOf := goodIn_r _ [20, 2, 32, 33, 34, 35, 36, 37, 38, 39, 40, 41, 42, 43, 44, 45, 46, 47, 48, 49, 50, 51, 52, 53, 54, 55, 56, 57, 58, 59, 60, 61, 62, 63, 64, 65, 66, 67, 68, 69, 70, 71, 72, 73, 74, 75, 76, 77, 78, 79] (by decide +kernel) (by decide +kernel)
set_option maxRecDepth 20000 in
theorem gX12_jury_X12_floorOf : GoodIn wsX12_jury (wsV RX12 258 RX12 yX12_floorOf wsX12_floorOf) := goodIn_app (goodIn_of _ (by decide +kernel)) ggX12_jury_X12_floorOf
set_option maxRecDepth 20000 in
theorem ggX12_jury_X12_layRings : GoodIn wsX12_jury wsX12_layRings := goodIn_r _ [24, 4, 3, 2, 25, 26, 9, 27, 28, 29, 30, 31, 32, 33, 34, 35, 36, 37, 38, 39, 40, 41, 42, 43, 44, 45, 46, 47, 48, 49, 50, 51, 52, 53, 54, 55, 56, 57, 58, 59, 60, 61, 62, 63, 64, 65, 66, 67, 68, 69, 70, 71, 72, 73, 74, 75, 76, 77, 78, 79] (by decide +kernel) (by decide +kernel)
set_option maxRecDepth 20000 in
theorem gX12_jury_X12_layRings : GoodIn wsX12_jury (wsV RX12 243 RX12 yX12_layRings wsX12_layRings) := goodIn_app (goodIn_of _ (by decide +kernel)) ggX12_jury_X12_layRings
set_option maxRecDepth 20000 in
theorem ggX12_likelyFrom_X12_isOneRing_ : GoodIn wsX12_likelyFrom wsX12_isOneRing_ := goodIn_r _ [6, 7, 8, 9, 5, 10, 11, 12, 1, 13, 14, 15, 16, 17, 18, 19, 20, 21, 22, 23, 27, 28, 29, 30, 31, 32, 33, 34, 35, 36, 37, 38, 39, 40, 41, 42, 43, 44, 45, 46, 47, 48, 49, 50, 51, 52, 53, 54, 55, 56, 57, 58, 59, 60, 61, 62, 63, 64, 65, 66, 67, 68, 69, 70, 71, 72, 73, 74] (by decide +kernel) (by decide +kernel)
set_option maxRecDepth 20000 in
theorem gX12_likelyFrom_X12_isOneRing_ : GoodIn wsX12_likelyFrom (wsV RX12 277 RX12 yX12_isOneRing_ wsX12_isOneRing_) := goodIn_app (goodIn_of _ (by decide +kernel)) ggX12_likelyFrom_X12_isOneRing_
set_option maxRecDepth 20000 in
theorem ggX12_likelyFrom_X12_has : GoodIn wsX12_likelyFrom wsX12_has := goodIn_r _ [19] (by decide +kernel) (by decide +kernel)
set_option maxRecDepth 20000 in
theorem gX12_likelyFrom_X12_has : GoodIn wsX12_likelyFrom (va_wsS RX12 240 yX12_has wsX12_has) := goodIn_app (goodIn_of _ (by decide +kernel)) ggX12_likelyFrom_X12_has
set_option maxRecDepth 20000 in
theorem ggX12_likelyFrom_X12_likelyFrom : GoodIn wsX12_likelyFrom wsX12_likelyFrom := goodIn_r _ [0, 1, 2, 3, 4, 5, 6, 7, 8, 9, 10, 11, 12, 13, 14, 15, 16, 17, 18, 19, 20, 21, 22, 23, 24, 25, 26, 27, 28, 29, 30, 31, 32, 33, 34, 35, 36, 37, 38, 39, 40, 41, 42, 43, 44, 45, 46, 47, 48, 49, 50, 51, 52, 53, 54, 55, 56, 57, 58, 59, 60, 61, 62, 63, 64, 65, 66, 67, 68, 69, 70, 71, 72, 73, 74] (by decide +kernel) (by decide +kernel)
set_option maxRecDepth 20000 in
theorem gX12_likelyFrom_X12_likelyFrom : GoodIn wsX12_likelyFrom (wsV RX12 305 RX12 yX12_likelyFrom wsX12_likelyFrom) := goodIn_app (goodIn_of _ (by decide +kernel)) ggX12_likelyFrom_X12_likelyFrom
set_option maxRecDepth 20000 in
theorem ggX12_tellPart_X12_commonLong : GoodIn wsX12_tellPart wsX12_commonLong := goodIn_r _ [5] (by decide +kernel) (by decide +kernel)
set_option maxRecDepth 20000 in
theorem gX12_tellPart_X12_commonLong : GoodIn wsX12_tellPart (va_wsS RX12 311 yX12_commonLong wsX12_commonLong) := goodIn_app (goodIn_of _ (by decide +kernel)) ggX12_tellPart_X12_commonLong
set_option maxRecDepth 20000 in
theorem ggX12_likely_X12_isCase : GoodIn wsX12_likely wsX12_isCase := goodIn_r _ [7, 2, 8, 9, 6, 10, 55, 56, 57, 58, 59, 60, 61, 62, 63, 64, 65, 66, 67, 68, 69, 70, 71, 72, 73, 74, 75, 76, 77, 78, 79, 80, 81, 82, 83, 84, 85, 86, 87, 88, 89, 90, 91, 92, 93, 94, 95, 96, 97, 98, 99, 100, 101, 102] (by decide +kernel) (by decide +kernel)
set_option maxRecDepth 20000 in
theorem gX12_likely_X12_isCase : GoodIn wsX12_likely (wsV RX12 255 RX12 yX12_isCase wsX12_isCase) := goodIn_app (goodIn_of _ (by decide +kernel)) ggX12_likely_X12_isCase
set_option maxRecDepth 20000 in
theorem ggX12_likely_X12_isIn : GoodIn wsX12_likely wsX12_isIn := goodIn_r _ [10] (by decide +kernel) (by decide +kernel)
set_option maxRecDepth 20000 in
theorem gX12_likely_X12_isIn : GoodIn wsX12_likely (va_wsS RX12 75 yX12_isIn wsX12_isIn) := goodIn_app (goodIn_of _ (by decide +kernel)) ggX12_likely_X12_isIn
set_option maxRecDepth 20000 in
theorem ggX12_likely_X12_refuse : GoodIn wsX12_likely wsX12_refuse := goodIn_r _ [14, 1, 55, 56, 57, 58, 59, 60, 61, 62, 63, 64, 65, 66, 67, 68, 69, 70, 71, 72, 73, 74, 75, 76, 77, 78, 79, 80, 81, 82, 83, 84, 85, 86, 87, 88, 89, 90, 91, 92, 93, 94, 95, 96, 97, 98, 99, 100, 101, 102] (by decide +kernel) (by decide +kernel)
set_option maxRecDepth 20000 in
theorem gX12_likely_X12_refuse : GoodIn wsX12_likely (wsV RX12 252 RX12 yX12_refuse wsX12_refuse) := goodIn_app (goodIn_of _ (by decide +kernel)) ggX12_likely_X12_refuse
set_option maxRecDepth 20000 in
theorem ggX12_likely_X12_floorOf : GoodIn wsX12_likely wsX12_floorOf := goodIn_r _ [18, 2, 55, 56, 57, 58, 59, 60, 61, 62, 63, 64, 65, 66, 67, 68, 69, 70, 71, 72, 73, 74, 75, 76, 77, 78, 79, 80, 81, 82, 83, 84, 85, 86, 87, 88, 89, 90, 91, 92, 93, 94, 95, 96, 97, 98, 99, 100, 101, 102] (by decide +kernel) (by decide +kernel)
set_option maxRecDepth 20000 in
theorem gX12_likely_X12_floorOf : GoodIn wsX12_likely (wsV RX12 258 RX12 yX12_floorOf wsX12_floorOf) := goodIn_app (goodIn_of _ (by decide +kernel)) ggX12_likely_X12_floorOf
set_option maxRecDepth 20000 in
theorem ggX12_likely_X12_likelyFrom : GoodIn wsX12_likely wsX12_likelyFrom := goodIn_r _ [22, 2, 23, 24, 25, 6, 26, 27, 28, 29, 30, 31, 32, 33, 34, 35, 36, 37, 38, 39, 40, 41, 42, 43, 19, 20, 21, 55, 56, 57, 58, 59, 60, 61, 62, 63, 64, 65, 66, 67, 68, 69, 70, 71, 72, 73, 74, 75, 76, 77, 78, 79, 80, 81, 82, 83, 84, 85, 86, 87, 88, 89, 90, 91, 92, 93, 94, 95, 96, 97, 98, 99, 100, 101, 102] (by decide +kernel) (by decide +kernel)
set_option maxRecDepth 20000 in
theorem gX12_likely_X12_likelyFrom : GoodIn wsX12_likely (wsV RX12 305 RX12 yX12_likelyFrom wsX12_likelyFrom) := goodIn_app (goodIn_of _ (by decide +kernel)) ggX12_likely_X12_likelyFrom
set_option maxRecDepth 20000 in
theorem ggX12_likely_X12_bits : GoodIn wsX12_likely wsX12_bits := goodIn_r _ [46] (by decide +kernel) (by decide +kernel)
set_option maxRecDepth 20000 in
theorem gX12_likely_X12_bits : GoodIn wsX12_likely (va_wsS RX12 302 yX12_bits wsX12_bits) := goodIn_app (goodIn_of _ (by decide +kernel)) ggX12_likely_X12_bits
set_option maxRecDepth 20000 in
theorem ggX12_likely_X12_tellPart : GoodIn wsX12_likely wsX12_tellPart := goodIn_r _ [50, 51, 52, 53, 6, 54] (by decide +kernel) (by decide +kernel)
set_option maxRecDepth 20000 in
theorem gX12_likely_X12_tellPart : GoodIn wsX12_likely (wsV RX12 315 RX12 yX12_tellPart wsX12_tellPart) := goodIn_app (goodIn_of _ (by decide +kernel)) ggX12_likely_X12_tellPart
set_option maxRecDepth 20000 in
theorem ggX12_panel_X12_isCase : GoodIn wsX12_panel wsX12_isCase := goodIn_r _ [9, 2, 10, 11, 8, 12, 57, 58, 59, 60, 61, 62, 63, 64, 65, 66, 67, 68, 69, 70, 71, 72, 73, 74, 75, 76, 77, 78, 79, 80, 81, 82, 83, 84, 85, 86, 87, 88, 89, 90, 91, 92, 93, 94, 95, 96, 97, 98, 99, 100, 101, 102, 103, 104] (by decide +kernel) (by decide +kernel)
set_option maxRecDepth 20000 in
theorem gX12_panel_X12_isCase : GoodIn wsX12_panel (wsV RX12 255 RX12 yX12_isCase wsX12_isCase) := goodIn_app (goodIn_of _ (by decide +kernel)) ggX12_panel_X12_isCase
set_option maxRecDepth 20000 in
theorem ggX12_panel_X12_isIn : GoodIn wsX12_panel wsX12_isIn := goodIn_r _ [12] (by decide +kernel) (by decide +kernel)
set_option maxRecDepth 20000 in
theorem gX12_panel_X12_isIn : GoodIn wsX12_panel (va_wsS RX12 75 yX12_isIn wsX12_isIn) := goodIn_app (goodIn_of _ (by decide +kernel)) ggX12_panel_X12_isIn
set_option maxRecDepth 20000 in
theorem ggX12_panel_X12_refuse : GoodIn wsX12_panel wsX12_refuse := goodIn_r _ [16, 1, 57, 58, 59, 60, 61, 62, 63, 64, 65, 66, 67, 68, 69, 70, 71, 72, 73, 74, 75, 76, 77, 78, 79, 80, 81, 82, 83, 84, 85, 86, 87, 88, 89, 90, 91, 92, 93, 94, 95, 96, 97, 98, 99, 100, 101, 102, 103, 104] (by decide +kernel) (by decide +kernel)
set_option maxRecDepth 20000 in
theorem gX12_panel_X12_refuse : GoodIn wsX12_panel (wsV RX12 252 RX12 yX12_refuse wsX12_refuse) := goodIn_app (goodIn_of _ (by decide +kernel)) ggX12_panel_X12_refuse
set_option maxRecDepth 20000 in
theorem ggX12_panel_X12_bits : GoodIn wsX12_panel wsX12_bits := goodIn_r _ [19] (by decide +kernel) (by decide +kernel)
set_option maxRecDepth 20000 in
theorem gX12_panel_X12_bits : GoodIn wsX12_panel (va_wsS RX12 302 yX12_bits wsX12_bits) := goodIn_app (goodIn_of _ (by decide +kernel)) ggX12_panel_X12_bits
set_option maxRecDepth 20000 in
theorem ggX12_panel_X12_floorOf : GoodIn wsX12_panel wsX12_floorOf := goodIn_r _ [23, 2, 57, 58, 59, 60, 61, 62, 63, 64, 65, 66, 67, 68, 69, 70, 71, 72, 73, 74, 75, 76, 77, 78, 79, 80, 81, 82, 83, 84, 85, 86, 87, 88, 89, 90, 91, 92, 93, 94, 95, 96, 97, 98, 99, 100, 101, 102, 103, 104] (by decide +kernel) (by decide +kernel)
set_option maxRecDepth 20000 in
theorem gX12_panel_X12_floorOf : GoodIn wsX12_panel (wsV RX12 258 RX12 yX12_floorOf wsX12_floorOf) := goodIn_app (goodIn_of _ (by decide +kernel)) ggX12_panel_X12_floorOf
set_option maxRecDepth 20000 in
theorem ggX12_panel_X12_likelyFrom : GoodIn wsX12_panel wsX12_likelyFrom := goodIn_r _ [27, 2, 28, 29, 30, 8, 31, 32, 33, 34, 35, 36, 37, 38, 39, 40, 41, 42, 43, 44, 45, 46, 47, 48, 24, 25, 26, 57, 58, 59, 60, 61, 62, 63, 64, 65, 66, 67, 68, 69, 70, 71, 72, 73, 74, 75, 76, 77, 78, 79, 80, 81, 82, 83, 84, 85, 86, 87, 88, 89, 90, 91, 92, 93, 94, 95, 96, 97, 98, 99, 100, 101, 102, 103, 104] (by decide +kernel) (by decide +kernel)
set_option maxRecDepth 20000 in
theorem gX12_panel_X12_likelyFrom : GoodIn wsX12_panel (wsV RX12 305 RX12 yX12_likelyFrom wsX12_likelyFrom) := goodIn_app (goodIn_of _ (by decide +kernel)) ggX12_panel_X12_likelyFrom
set_option maxRecDepth 20000 in
theorem ggX12_panel_X12_tellPart : GoodIn wsX12_panel wsX12_tellPart := goodIn_r _ [52, 53, 54, 55, 8, 56] (by decide +kernel) (by decide +kernel)
set_option maxRecDepth 20000 in
theorem gX12_panel_X12_tellPart : GoodIn wsX12_panel (wsV RX12 315 RX12 yX12_tellPart wsX12_tellPart) := goodIn_app (goodIn_of _ (by decide +kernel)) ggX12_panel_X12_tellPart
set_option maxRecDepth 20000 in
theorem ggX12_heard_X12_take : GoodIn wsX12_heard wsX12_take := goodIn_r _ [13, 14, 36, 37, 38, 39, 40, 41, 42, 43, 44, 45, 46, 47, 48, 49, 50, 51, 52, 53, 54, 55, 56, 57, 58, 59, 60, 61, 62, 63, 64, 65, 66, 67, 68, 69, 70, 71, 72, 73, 74, 75, 76, 77, 78, 79, 80, 81, 82, 83] (by decide +kernel) (by decide +kernel)
set_option maxRecDepth 20000 in
theorem gX12_heard_X12_take : GoodIn wsX12_heard (wsV RX12 89 RX12 yX12_take wsX12_take) := goodIn_app (goodIn_of _ (by decide +kernel)) ggX12_heard_X12_take
set_option maxRecDepth 20000 in
theorem ggX12_heard_X12_isFloor : GoodIn wsX12_heard wsX12_isFloor := goodIn_r _ [18, 4, 19, 20, 12, 21, 36, 37, 38, 39, 40, 41, 42, 43, 44, 45, 46, 47, 48, 49, 50, 51, 52, 53, 54, 55, 56, 57, 58, 59, 60, 61, 62, 63, 64, 65, 66, 67, 68, 69, 70, 71, 72, 73, 74, 75, 76, 77, 78, 79, 80, 81, 82, 83] (by decide +kernel) (by decide +kernel)
set_option maxRecDepth 20000 in
theorem gX12_heard_X12_isFloor : GoodIn wsX12_heard (wsV RX12 261 RX12 yX12_isFloor wsX12_isFloor) := goodIn_app (goodIn_of _ (by decide +kernel)) ggX12_heard_X12_isFloor
set_option maxRecDepth 20000 in
theorem ggX12_heard_X12_layRings : GoodIn wsX12_heard wsX12_layRings := goodIn_r _ [25, 5, 6, 4, 26, 27, 12, 28, 29, 30, 31, 32, 36, 37, 38, 39, 40, 41, 42, 43, 44, 45, 46, 47, 48, 49, 50, 51, 52, 53, 54, 55, 56, 57, 58, 59, 60, 61, 62, 63, 64, 65, 66, 67, 68, 69, 70, 71, 72, 73, 74, 75, 76, 77, 78, 79, 80, 81, 82, 83] (by decide +kernel) (by decide +kernel)
set_option maxRecDepth 20000 in
theorem gX12_heard_X12_layRings : GoodIn wsX12_heard (wsV RX12 243 RX12 yX12_layRings wsX12_layRings) := goodIn_app (goodIn_of _ (by decide +kernel)) ggX12_heard_X12_layRings
set_option maxRecDepth 20000 in
theorem ggX12_heard_X12_has : GoodIn wsX12_heard wsX12_has := goodIn_r _ [28] (by decide +kernel) (by decide +kernel)
set_option maxRecDepth 20000 in
theorem gX12_heard_X12_has : GoodIn wsX12_heard (va_wsS RX12 240 yX12_has wsX12_has) := goodIn_app (goodIn_of _ (by decide +kernel)) ggX12_heard_X12_has
set_option maxRecDepth 20000 in
theorem ggX12_heard_X12_size : GoodIn wsX12_heard wsX12_size := goodIn_r _ [35] (by decide +kernel) (by decide +kernel)
set_option maxRecDepth 20000 in
theorem gX12_heard_X12_size : GoodIn wsX12_heard (va_wsS RX12 321 yX12_size wsX12_size) := goodIn_app (goodIn_of _ (by decide +kernel)) ggX12_heard_X12_size
set_option maxRecDepth 20000 in
theorem ggX12_layStrikes_X12_bits : GoodIn wsX12_layStrikes wsX12_bits := goodIn_r _ [6] (by decide +kernel) (by decide +kernel)
set_option maxRecDepth 20000 in
theorem gX12_layStrikes_X12_bits : GoodIn wsX12_layStrikes (va_wsS RX12 302 yX12_bits wsX12_bits) := goodIn_app (goodIn_of _ (by decide +kernel)) ggX12_layStrikes_X12_bits
set_option maxRecDepth 20000 in
theorem ggX12_layStrikes_X12_isOneRing_ : GoodIn wsX12_layStrikes wsX12_isOneRing_ := goodIn_r _ [10, 11, 12, 13, 5, 14, 15, 16, 1, 17, 18, 19, 20, 21, 22, 23, 24, 25, 26, 27, 28, 29, 30, 31, 32, 33, 34, 35, 36, 37, 38, 39, 40, 41, 42, 43, 44, 45, 46, 47, 48, 49, 50, 51, 52, 53, 54, 55, 56, 57, 58, 59, 60, 61, 62, 63, 64, 65, 66, 67, 68, 69, 70, 71, 72, 73, 74, 75] (by decide +kernel) (by decide +kernel)
set_option maxRecDepth 20000 in
theorem gX12_layStrikes_X12_isOneRing_ : GoodIn wsX12_layStrikes (wsV RX12 277 RX12 yX12_isOneRing_ wsX12_isOneRing_) := goodIn_app (goodIn_of _ (by decide +kernel)) ggX12_layStrikes_X12_isOneRing_
set_option maxRecDepth 20000 in
theorem ggX12_layStrikes_X12_has : GoodIn wsX12_layStrikes wsX12_has := goodIn_r _ [23] (by decide +kernel) (by decide +kernel)
set_option maxRecDepth 20000 in
theorem gX12_layStrikes_X12_has : GoodIn wsX12_layStrikes (va_wsS RX12 240 yX12_has wsX12_has) := goodIn_app (goodIn_of _ (by decide +kernel)) ggX12_layStrikes_X12_has
set_option maxRecDepth 20000 in
theorem ggX12_strikes_X12_isCase : GoodIn wsX12_strikes wsX12_isCase := goodIn_r _ [9, 2, 10, 11, 8, 12, 45, 46, 47, 48, 49, 50, 51, 52, 53, 54, 55, 56, 57, 58, 59, 60, 61, 62, 63, 64, 65, 66, 67, 68, 69, 70, 71, 72, 73, 74, 75, 76, 77, 78, 79, 80, 81, 82, 83, 84, 85, 86, 87, 88, 89, 90, 91, 92] (by decide +kernel) (by decide +kernel)
set_option maxRecDepth 20000 in
theorem gX12_strikes_X12_isCase : GoodIn wsX12_strikes (wsV RX12 255 RX12 yX12_isCase wsX12_isCase) := goodIn_app (goodIn_of _ (by decide +kernel)) ggX12_strikes_X12_isCase
set_option maxRecDepth 20000 in
theorem ggX12_strikes_X12_bits : GoodIn wsX12_strikes wsX12_bits := goodIn_r _ [15] (by decide +kernel) (by decide +kernel)
set_option maxRecDepth 20000 in
theorem gX12_strikes_X12_bits : GoodIn wsX12_strikes (va_wsS RX12 302 yX12_bits wsX12_bits) := goodIn_app (goodIn_of _ (by decide +kernel)) ggX12_strikes_X12_bits
set_option maxRecDepth 20000 in
theorem ggX12_strikes_X12_isIn : GoodIn wsX12_strikes wsX12_isIn := goodIn_r _ [12] (by decide +kernel) (by decide +kernel)
set_option maxRecDepth 20000 in
theorem gX12_strikes_X12_isIn : GoodIn wsX12_strikes (va_wsS RX12 75 yX12_isIn wsX12_isIn) := goodIn_app (goodIn_of _ (by decide +kernel)) ggX12_strikes_X12_isIn
set_option maxRecDepth 20000 in
theorem ggX12_strikes_X12_floorOf : GoodIn wsX12_strikes wsX12_floorOf := goodIn_r _ [19, 2, 45, 46, 47, 48, 49, 50, 51, 52, 53, 54, 55, 56, 57, 58, 59, 60, 61, 62, 63, 64, 65, 66, 67, 68, 69, 70, 71, 72, 73, 74, 75, 76, 77, 78, 79, 80, 81, 82, 83, 84, 85, 86, 87, 88, 89, 90, 91, 92] (by decide +kernel) (by decide +kernel)
set_option maxRecDepth 20000 in
theorem gX12_strikes_X12_floorOf : GoodIn wsX12_strikes (wsV RX12 258 RX12 yX12_floorOf wsX12_floorOf) := goodIn_app (goodIn_of _ (by decide +kernel)) ggX12_strikes_X12_floorOf
set_option maxRecDepth 20000 in
theorem ggX12_strikes_X12_layStrikes : GoodIn wsX12_strikes wsX12_layStrikes := goodIn_r _ [23, 2, 3, 13, 14, 8, 15, 24, 25, 26, 27, 28, 29, 30, 31, 32, 33, 34, 35, 36, 37, 38, 39, 40, 41, 42, 43, 44, 45, 46, 47, 48, 49, 50, 51, 52, 53, 54, 55, 56, 57, 58, 59, 60, 61, 62, 63, 64, 65, 66, 67, 68, 69, 70, 71, 72, 73, 74, 75, 76, 77, 78, 79, 80, 81, 82, 83, 84, 85, 86, 87, 88, 89, 90, 91, 92] (by decide +kernel) (by decide +kernel)
set_option maxRecDepth 20000 in
theorem gX12_strikes_X12_layStrikes : GoodIn wsX12_strikes (wsV RX12 323 RX12 yX12_layStrikes wsX12_layStrikes) := goodIn_app (goodIn_of _ (by decide +kernel)) ggX12_strikes_X12_layStrikes
set_option maxRecDepth 20000 in
theorem ggX12_strikes_X12_has : GoodIn wsX12_strikes wsX12_has := goodIn_r _ [40] (by decide +kernel) (by decide +kernel)
set_option maxRecDepth 20000 in
theorem gX12_strikes_X12_has : GoodIn wsX12_strikes (va_wsS RX12 240 yX12_has wsX12_has) := goodIn_app (goodIn_of _ (by decide +kernel)) ggX12_strikes_X12_has
set_option maxRecDepth 20000 in
theorem ggX12_beats_X12_isCase : GoodIn wsX12_beats wsX12_isCase := goodIn_r _ [7, 8, 9, 10, 6, 11, 40, 41, 42, 43, 44, 45, 46, 47, 48, 49, 50, 51, 52, 53, 54, 55, 56, 57, 58, 59, 60, 61, 62, 63, 64, 65, 66, 67, 68, 69, 70, 71, 72, 73, 74, 75, 76, 77, 78, 79, 80, 81, 82, 83, 84, 85, 86, 87] (by decide +kernel) (by decide +kernel)
set_option maxRecDepth 20000 in
theorem gX12_beats_X12_isCase : GoodIn wsX12_beats (wsV RX12 255 RX12 yX12_isCase wsX12_isCase) := goodIn_app (goodIn_of _ (by decide +kernel)) ggX12_beats_X12_isCase
set_option maxRecDepth 20000 in
theorem ggX12_beats_X12_droppers : GoodIn wsX12_beats wsX12_droppers := goodIn_r _ [15, 8, 40, 41, 42, 43, 44, 45, 46, 47, 48, 49, 50, 51, 52, 53, 54, 55, 56, 57, 58, 59, 60, 61, 62, 63, 64, 65, 66, 67, 68, 69, 70, 71, 72, 73, 74, 75, 76, 77, 78, 79, 80, 81, 82, 83, 84, 85, 86, 87] (by decide +kernel) (by decide +kernel)
set_option maxRecDepth 20000 in
theorem gX12_beats_X12_droppers : GoodIn wsX12_beats (wsV RX12 274 RX12 yX12_droppers wsX12_droppers) := goodIn_app (goodIn_of _ (by decide +kernel)) ggX12_beats_X12_droppers
set_option maxRecDepth 20000 in
theorem ggX12_beats_X12_bits : GoodIn wsX12_beats wsX12_bits := goodIn_r _ [18] (by decide +kernel) (by decide +kernel)
set_option maxRecDepth 20000 in
theorem gX12_beats_X12_bits : GoodIn wsX12_beats (va_wsS RX12 302 yX12_bits wsX12_bits) := goodIn_app (goodIn_of _ (by decide +kernel)) ggX12_beats_X12_bits
set_option maxRecDepth 20000 in
theorem ggX12_beats_X12_floorOf : GoodIn wsX12_beats wsX12_floorOf := goodIn_r _ [22, 8, 40, 41, 42, 43, 44, 45, 46, 47, 48, 49, 50, 51, 52, 53, 54, 55, 56, 57, 58, 59, 60, 61, 62, 63, 64, 65, 66, 67, 68, 69, 70, 71, 72, 73, 74, 75, 76, 77, 78, 79, 80, 81, 82, 83, 84, 85, 86, 87] (by decide +kernel) (by decide +kernel)
set_option maxRecDepth 20000 in
theorem gX12_beats_X12_floorOf : GoodIn wsX12_beats (wsV RX12 258 RX12 yX12_floorOf wsX12_floorOf) := goodIn_app (goodIn_of _ (by decide +kernel)) ggX12_beats_X12_floorOf
set_option maxRecDepth 20000 in
theorem ggX12_beats_X12_isOneRing : GoodIn wsX12_beats wsX12_isOneRing := goodIn_r _ [26, 27, 28, 8, 29, 30, 31, 6, 32, 33, 34, 35, 36, 37, 38, 39, 40, 41, 42, 43, 44, 45, 46, 47, 48, 49, 50, 51, 52, 53, 54, 55, 56, 57, 58, 59, 60, 61, 62, 63, 64, 65, 66, 67, 68, 69, 70, 71, 72, 73, 74, 75, 76, 77, 78, 79, 80, 81, 82, 83, 84, 85, 86, 87] (by decide +kernel) (by decide +kernel)
set_option maxRecDepth 20000 in
theorem gX12_beats_X12_isOneRing : GoodIn wsX12_beats (wsV RX12 246 RX12 yX12_isOneRing wsX12_isOneRing) := goodIn_app (goodIn_of _ (by decide +kernel)) ggX12_beats_X12_isOneRing
set_option maxRecDepth 20000 in
theorem ggX12_writeWord_X12_writeWord : GoodIn wsX12_writeWord wsX12_writeWord := goodIn_r _ [0, 1, 2, 3, 4, 5, 6, 7, 8, 9, 10, 11, 12, 13, 14, 15, 16, 17, 18, 19, 20, 21, 22, 23, 24, 25, 26, 27, 28, 29, 30, 31, 32, 33, 34, 35, 36, 37, 38, 39, 40, 41, 42, 43, 44, 45, 46, 47, 48, 49, 50, 51, 52, 53, 54, 55, 56, 57, 58, 59] (by decide +kernel) (by decide +kernel)
set_option maxRecDepth 20000 in
theorem gX12_writeWord_X12_writeWord : GoodIn wsX12_writeWord (wsV RX12 329 RX12 yX12_writeWord wsX12_writeWord) := goodIn_app (goodIn_of _ (by decide +kernel)) ggX12_writeWord_X12_writeWord
set_option maxRecDepth 20000 in
theorem ggX12_writeWord_X12_write : GoodIn wsX12_writeWord wsX12_write := goodIn_r _ [9, 10, 11, 12, 13, 14, 15, 16, 17, 18, 19, 20, 21, 22, 23, 24, 25, 26, 27, 28, 29, 30, 31, 32, 33, 34, 35, 36, 37, 38, 39, 40, 41, 42, 43, 44, 45, 46, 47, 48, 49, 50, 51, 52, 53, 54, 55, 56, 57, 58, 59] (by decide +kernel) (by decide +kernel)
set_option maxRecDepth 20000 in
theorem gX12_writeWord_X12_write : GoodIn wsX12_writeWord (wsV RX12 333 RX12 yX12_write wsX12_write) := goodIn_app (goodIn_of _ (by decide +kernel)) ggX12_writeWord_X12_write
set_option maxRecDepth 20000 in
theorem ggX12_writeNumber_X12_writeNumber : GoodIn wsX12_writeNumber wsX12_writeNumber := goodIn_r _ [0, 1, 2, 3, 4, 5, 6, 7, 8, 9, 10, 11, 12, 13, 14, 15, 16, 17, 18, 19, 20, 21, 22, 23, 24, 25, 26, 27, 28, 29, 30, 31, 32, 33, 34, 35, 36, 37, 38, 39, 40, 41, 42, 43, 44, 45, 46, 47, 48, 49, 50, 51, 52, 53, 54, 55, 56, 57, 58] (by decide +kernel) (by decide +kernel)
set_option maxRecDepth 20000 in
theorem gX12_writeNumber_X12_writeNumber : GoodIn wsX12_writeNumber (wsV RX12 336 RX12 yX12_writeNumber wsX12_writeNumber) := goodIn_app (goodIn_of _ (by decide +kernel)) ggX12_writeNumber_X12_writeNumber
set_option maxRecDepth 20000 in
theorem ggX12_writeNumber_X12_write : GoodIn wsX12_writeNumber wsX12_write := goodIn_r _ [8, 9, 10, 11, 12, 13, 14, 15, 16, 17, 18, 19, 20, 21, 22, 23, 24, 25, 26, 27, 28, 29, 30, 31, 32, 33, 34, 35, 36, 37, 38, 39, 40, 41, 42, 43, 44, 45, 46, 47, 48, 49, 50, 51, 52, 53, 54, 55, 56, 57, 58] (by decide +kernel) (by decide +kernel)
set_option maxRecDepth 20000 in
theorem gX12_writeNumber_X12_write : GoodIn wsX12_writeNumber (wsV RX12 333 RX12 yX12_write wsX12_write) := goodIn_app (goodIn_of _ (by decide +kernel)) ggX12_writeNumber_X12_write
set_option maxRecDepth 20000 in
theorem ggX12_writeNext_X12_write : GoodIn wsX12_writeNext wsX12_write := goodIn_r _ [5, 6, 7, 13, 14, 15, 16, 17, 18, 19, 20, 21, 22, 23, 24, 25, 26, 27, 28, 29, 30, 31, 32, 33, 34, 35, 36, 37, 38, 39, 40, 41, 42, 43, 44, 45, 46, 47, 48, 49, 50, 51, 52, 53, 54, 55, 56, 57, 58, 59, 60] (by decide +kernel) (by decide +kernel)
set_option maxRecDepth 20000 in
theorem gX12_writeNext_X12_write : GoodIn wsX12_writeNext (wsV RX12 333 RX12 yX12_write wsX12_write) := goodIn_app (goodIn_of _ (by decide +kernel)) ggX12_writeNext_X12_write
set_option maxRecDepth 20000 in
theorem ggX12_writeNext_X12_writeWord : GoodIn wsX12_writeNext wsX12_writeWord := goodIn_r _ [11, 12, 8, 9, 10, 4, 1, 2, 3, 5, 6, 7, 13, 14, 15, 16, 17, 18, 19, 20, 21, 22, 23, 24, 25, 26, 27, 28, 29, 30, 31, 32, 33, 34, 35, 36, 37, 38, 39, 40, 41, 42, 43, 44, 45, 46, 47, 48, 49, 50, 51, 52, 53, 54, 55, 56, 57, 58, 59, 60] (by decide +kernel) (by decide +kernel)
set_option maxRecDepth 20000 in
theorem gX12_writeNext_X12_writeWord : GoodIn wsX12_writeNext (wsV RX12 329 RX12 yX12_writeWord wsX12_writeWord) := goodIn_app (goodIn_of _ (by decide +kernel)) ggX12_writeNext_X12_writeWord
set_option maxRecDepth 20000 in
theorem ggX12_roll_X12_isCase : GoodIn wsX12_roll wsX12_isCase := goodIn_r _ [9, 4, 10, 11, 8, 12, 38, 39, 40, 41, 42, 43, 44, 45, 46, 47, 48, 49, 50, 51, 52, 53, 54, 55, 56, 57, 58, 59, 60, 61, 62, 63, 64, 65, 66, 67, 68, 69, 70, 71, 72, 73, 74, 75, 76, 77, 78, 79, 80, 81, 82, 83, 84, 85] (by decide +kernel) (by decide +kernel)
set_option maxRecDepth 20000 in
theorem gX12_roll_X12_isCase : GoodIn wsX12_roll (wsV RX12 255 RX12 yX12_isCase wsX12_isCase) := goodIn_app (goodIn_of _ (by decide +kernel)) ggX12_roll_X12_isCase
set_option maxRecDepth 20000 in
theorem ggX12_roll_X12_writeWord : GoodIn wsX12_roll wsX12_writeWord := goodIn_r _ [16, 17, 13, 14, 15, 8, 18, 19, 20, 21, 22, 2, 38, 39, 40, 41, 42, 43, 44, 45, 46, 47, 48, 49, 50, 51, 52, 53, 54, 55, 56, 57, 58, 59, 60, 61, 62, 63, 64, 65, 66, 67, 68, 69, 70, 71, 72, 73, 74, 75, 76, 77, 78, 79, 80, 81, 82, 83, 84, 85] (by decide +kernel) (by decide +kernel)
set_option maxRecDepth 20000 in
theorem gX12_roll_X12_writeWord : GoodIn wsX12_roll (wsV RX12 329 RX12 yX12_writeWord wsX12_writeWord) := goodIn_app (goodIn_of _ (by decide +kernel)) ggX12_roll_X12_writeWord
set_option maxRecDepth 20000 in
theorem ggX12_roll_X12_spelt : GoodIn wsX12_roll wsX12_spelt := goodIn_r _ [25, 17, 26] (by decide +kernel) (by decide +kernel)
set_option maxRecDepth 20000 in
theorem gX12_roll_X12_spelt : GoodIn wsX12_roll (va_wsS RX12 58 yX12_spelt wsX12_spelt) := goodIn_app (goodIn_of _ (by decide +kernel)) ggX12_roll_X12_spelt
set_option maxRecDepth 20000 in
theorem ggX12_roll_X12_writeNext : GoodIn wsX12_roll wsX12_writeNext := goodIn_r _ [30, 18, 19, 20, 8, 21, 22, 2, 13, 14, 15, 16, 17, 38, 39, 40, 41, 42, 43, 44, 45, 46, 47, 48, 49, 50, 51, 52, 53, 54, 55, 56, 57, 58, 59, 60, 61, 62, 63, 64, 65, 66, 67, 68, 69, 70, 71, 72, 73, 74, 75, 76, 77, 78, 79, 80, 81, 82, 83, 84, 85] (by decide +kernel) (by decide +kernel)
set_option maxRecDepth 20000 in
theorem gX12_roll_X12_writeNext : GoodIn wsX12_roll (wsV RX12 339 RX12 yX12_writeNext wsX12_writeNext) := goodIn_app (goodIn_of _ (by decide +kernel)) ggX12_roll_X12_writeNext
set_option maxRecDepth 20000 in
theorem ggX12_roll_X12_write : GoodIn wsX12_roll wsX12_write := goodIn_r _ [21, 22, 2, 38, 39, 40, 41, 42, 43, 44, 45, 46, 47, 48, 49, 50, 51, 52, 53, 54, 55, 56, 57, 58, 59, 60, 61, 62, 63, 64, 65, 66, 67, 68, 69, 70, 71, 72, 73, 74, 75, 76, 77, 78, 79, 80, 81, 82, 83, 84, 85] (by decide +kernel) (by decide +kernel)
set_option maxRecDepth 20000 in
theorem gX12_roll_X12_write : GoodIn wsX12_roll (wsV RX12 333 RX12 yX12_write wsX12_write) := goodIn_app (goodIn_of _ (by decide +kernel)) ggX12_roll_X12_write
set_option maxRecDepth 20000 in
theorem ggX12_roll_X12_bits : GoodIn wsX12_roll wsX12_bits := goodIn_r _ [33] (by decide +kernel) (by decide +kernel)
set_option maxRecDepth 20000 in
theorem gX12_roll_X12_bits : GoodIn wsX12_roll (va_wsS RX12 302 yX12_bits wsX12_bits) := goodIn_app (goodIn_of _ (by decide +kernel)) ggX12_roll_X12_bits
set_option maxRecDepth 20000 in
theorem ggX12_roll_X12_writeNumber : GoodIn wsX12_roll wsX12_writeNumber := goodIn_r _ [37, 34, 35, 36, 8, 18, 19, 20, 21, 22, 2, 38, 39, 40, 41, 42, 43, 44, 45, 46, 47, 48, 49, 50, 51, 52, 53, 54, 55, 56, 57, 58, 59, 60, 61, 62, 63, 64, 65, 66, 67, 68, 69, 70, 71, 72, 73, 74, 75, 76, 77, 78, 79, 80, 81, 82, 83, 84, 85] (by decide +kernel) (by decide +kernel)
set_option maxRecDepth 20000 in
theorem gX12_roll_X12_writeNumber : GoodIn wsX12_roll (wsV RX12 336 RX12 yX12_writeNumber wsX12_writeNumber) := goodIn_app (goodIn_of _ (by decide +kernel)) ggX12_roll_X12_writeNumber
set_option maxRecDepth 20000 in
theorem ggX12_byteAt_X12_isIn : GoodIn wsX12_byteAt wsX12_isIn := goodIn_r _ [7] (by decide +kernel) (by decide +kernel)
set_option maxRecDepth 20000 in
theorem gX12_byteAt_X12_isIn : GoodIn wsX12_byteAt (va_wsS RX12 75 yX12_isIn wsX12_isIn) := goodIn_app (goodIn_of _ (by decide +kernel)) ggX12_byteAt_X12_isIn
set_option maxRecDepth 20000 in
theorem ggX12_drawDays_X12_least : GoodIn wsX12_drawDays wsX12_least := goodIn_r _ [6] (by decide +kernel) (by decide +kernel)
set_option maxRecDepth 20000 in
theorem gX12_drawDays_X12_least : GoodIn wsX12_drawDays (va_wsS RX12 279 yX12_least wsX12_least) := goodIn_app (goodIn_of _ (by decide +kernel)) ggX12_drawDays_X12_least
set_option maxRecDepth 20000 in
theorem ggX12_drawDays_X12_draw : GoodIn wsX12_drawDays wsX12_draw := goodIn_r _ [10, 1, 11, 57, 58, 59, 60, 61, 62, 63, 64, 65, 66, 67, 68, 69, 70, 71, 72, 73, 74, 75, 76, 77, 78, 79, 80, 81, 82, 83, 84, 85, 86, 87, 88, 89, 90, 91, 92, 93, 94, 95, 96, 97, 98, 99, 100, 101, 102, 103, 104] (by decide +kernel) (by decide +kernel)
set_option maxRecDepth 20000 in
theorem gX12_drawDays_X12_draw : GoodIn wsX12_drawDays (wsV RX12 346 RX12 yX12_draw wsX12_draw) := goodIn_app (goodIn_of _ (by decide +kernel)) ggX12_drawDays_X12_draw
set_option maxRecDepth 20000 in
theorem ggX12_drawDays_X12_why : GoodIn wsX12_drawDays wsX12_why := goodIn_r _ [15, 2, 16, 17, 5, 18, 19, 20, 21, 22, 57, 58, 59, 60, 61, 62, 63, 64, 65, 66, 67, 68, 69, 70, 71, 72, 73, 74, 75, 76, 77, 78, 79, 80, 81, 82, 83, 84, 85, 86, 87, 88, 89, 90, 91, 92, 93, 94, 95, 96, 97, 98, 99, 100, 101, 102, 103, 104] (by decide +kernel) (by decide +kernel)
set_option maxRecDepth 20000 in
theorem gX12_drawDays_X12_why : GoodIn wsX12_drawDays (wsV RX12 285 RX12 yX12_why wsX12_why) := goodIn_app (goodIn_of _ (by decide +kernel)) ggX12_drawDays_X12_why
set_option maxRecDepth 20000 in
theorem ggX12_drawDays_X12_live : GoodIn wsX12_drawDays wsX12_live := goodIn_r _ [26, 2, 27, 28, 29, 5, 30, 19, 20, 21, 22, 31, 32, 33, 34, 35, 36, 37, 38, 39, 40, 41, 42, 43, 44, 45, 46, 47, 48, 16, 17, 18, 49, 50, 51, 52, 3, 4, 6, 57, 58, 59, 60, 61, 62, 63, 64, 65, 66, 67, 68, 69, 70, 71, 72, 73, 74, 75, 76, 77, 78, 79, 80, 81, 82, 83, 84, 85, 86, 87, 88, 89, 90, 91, 92, 93, 94, 95, 96, 97, 98, 99, 100, 101, 102, 103, 104] (by decide +kernel) (by decide +kernel)
set_option maxRecDepth 20000 in
theorem gX12_drawDays_X12_live : GoodIn wsX12_drawDays (wsV RX12 291 RX12 yX12_live wsX12_live) := goodIn_app (goodIn_of _ (by decide +kernel)) ggX12_drawDays_X12_live
set_option maxRecDepth 20000 in
theorem ggX12_drawDays_X12_passDays : GoodIn wsX12_drawDays wsX12_passDays := goodIn_r _ [56, 2, 3, 4, 5, 6, 57, 58, 59, 60, 61, 62, 63, 64, 65, 66, 67, 68, 69, 70, 71, 72, 73, 74, 75, 76, 77, 78, 79, 80, 81, 82, 83, 84, 85, 86, 87, 88, 89, 90, 91, 92, 93, 94, 95, 96, 97, 98, 99, 100, 101, 102, 103, 104] (by decide +kernel) (by decide +kernel)
set_option maxRecDepth 20000 in
theorem gX12_drawDays_X12_passDays : GoodIn wsX12_drawDays (wsV RX12 299 RX12 yX12_passDays wsX12_passDays) := goodIn_app (goodIn_of _ (by decide +kernel)) ggX12_drawDays_X12_passDays
set_option maxRecDepth 20000 in
theorem ggX12_drawn_X12_isIn : GoodIn wsX12_drawn wsX12_isIn := goodIn_r _ [6] (by decide +kernel) (by decide +kernel)
set_option maxRecDepth 20000 in
theorem gX12_drawn_X12_isIn : GoodIn wsX12_drawn (va_wsS RX12 75 yX12_isIn wsX12_isIn) := goodIn_app (goodIn_of _ (by decide +kernel)) ggX12_drawn_X12_isIn
set_option maxRecDepth 20000 in
theorem ggX12_drawn_X12_snap : GoodIn wsX12_drawn wsX12_snap := goodIn_r _ [10, 11, 12, 2, 71, 72, 73, 74, 75, 76, 77, 78, 79, 80, 81, 82, 83, 84, 85, 86, 87, 88, 89, 90, 91, 92, 93, 94, 95, 96, 97, 98, 99, 100, 101, 102, 103, 104, 105, 106, 107, 108, 109, 110, 111, 112, 113, 114, 115, 116, 117, 118] (by decide +kernel) (by decide +kernel)
set_option maxRecDepth 20000 in
theorem gX12_drawn_X12_snap : GoodIn wsX12_drawn (wsV RX12 288 RX12 yX12_snap wsX12_snap) := goodIn_app (goodIn_of _ (by decide +kernel)) ggX12_drawn_X12_snap
set_option maxRecDepth 20000 in
theorem ggX12_drawn_X12_drawDays : GoodIn wsX12_drawn wsX12_drawDays := goodIn_r _ [16, 17, 2, 18, 19, 5, 20, 21, 22, 23, 24, 25, 26, 27, 28, 29, 30, 31, 32, 33, 34, 35, 36, 37, 38, 39, 40, 41, 42, 43, 44, 45, 46, 47, 48, 49, 50, 51, 52, 53, 54, 55, 56, 57, 58, 59, 60, 61, 62, 63, 64, 65, 66, 67, 68, 69, 70, 71, 72, 73, 74, 75, 76, 77, 78, 79, 80, 81, 82, 83, 84, 85, 86, 87, 88, 89, 90, 91, 92, 93, 94, 95, 96, 97, 98, 99, 100, 101, 102, 103, 104, 105, 106, 107, 108, 109, 110, 111, 112, 113, 114, 115, 116, 117, 118] (by decide +kernel) (by decide +kernel)
set_option maxRecDepth 20000 in
theorem gX12_drawn_X12_drawDays : GoodIn wsX12_drawn (wsV RX12 349 RX12 yX12_drawDays wsX12_drawDays) := goodIn_app (goodIn_of _ (by decide +kernel)) ggX12_drawn_X12_drawDays
set_option maxRecDepth 20000 in
theorem ggX12_odds_X12_isCase : GoodIn wsX12_odds wsX12_isCase := goodIn_r _ [7, 2, 8, 9, 6, 10, 78, 79, 80, 81, 82, 83, 84, 85, 86, 87, 88, 89, 90, 91, 92, 93, 94, 95, 96, 97, 98, 99, 100, 101, 102, 103, 104, 105, 106, 107, 108, 109, 110, 111, 112, 113, 114, 115, 116, 117, 118, 119, 120, 121, 122, 123, 124, 125] (by decide +kernel) (by decide +kernel)
set_option maxRecDepth 20000 in
theorem gX12_odds_X12_isCase : GoodIn wsX12_odds (wsV RX12 255 RX12 yX12_isCase wsX12_isCase) := goodIn_app (goodIn_of _ (by decide +kernel)) ggX12_odds_X12_isCase
set_option maxRecDepth 20000 in
theorem ggX12_odds_X12_isIn : GoodIn wsX12_odds wsX12_isIn := goodIn_r _ [10] (by decide +kernel) (by decide +kernel)
set_option maxRecDepth 20000 in
theorem gX12_odds_X12_isIn : GoodIn wsX12_odds (va_wsS RX12 75 yX12_isIn wsX12_isIn) := goodIn_app (goodIn_of _ (by decide +kernel)) ggX12_odds_X12_isIn
set_option maxRecDepth 20000 in
theorem ggX12_odds_X12_layAside : GoodIn wsX12_odds wsX12_layAside := goodIn_r _ [14, 15, 2, 78, 79, 80, 81, 82, 83, 84, 85, 86, 87, 88, 89, 90, 91, 92, 93, 94, 95, 96, 97, 98, 99, 100, 101, 102, 103, 104, 105, 106, 107, 108, 109, 110, 111, 112, 113, 114, 115, 116, 117, 118, 119, 120, 121, 122, 123, 124, 125] (by decide +kernel) (by decide +kernel)
set_option maxRecDepth 20000 in
theorem gX12_odds_X12_layAside : GoodIn wsX12_odds (wsV RX12 352 RX12 yX12_layAside wsX12_layAside) := goodIn_app (goodIn_of _ (by decide +kernel)) ggX12_odds_X12_layAside
set_option maxRecDepth 20000 in
theorem ggX12_odds_X12_drawDays : GoodIn wsX12_odds wsX12_drawDays := goodIn_r _ [19, 20, 2, 21, 22, 6, 23, 24, 25, 26, 27, 28, 29, 30, 31, 32, 33, 34, 35, 36, 37, 38, 39, 40, 41, 42, 43, 44, 45, 46, 47, 48, 49, 50, 51, 52, 53, 54, 55, 56, 57, 58, 59, 60, 61, 62, 63, 64, 65, 66, 67, 68, 69, 70, 71, 72, 73, 78, 79, 80, 81, 82, 83, 84, 85, 86, 87, 88, 89, 90, 91, 92, 93, 94, 95, 96, 97, 98, 99, 100, 101, 102, 103, 104, 105, 106, 107, 108, 109, 110, 111, 112, 113, 114, 115, 116, 117, 118, 119, 120, 121, 122, 123, 124, 125] (by decide +kernel) (by decide +kernel)
set_option maxRecDepth 20000 in
theorem gX12_odds_X12_drawDays : GoodIn wsX12_odds (wsV RX12 349 RX12 yX12_drawDays wsX12_drawDays) := goodIn_app (goodIn_of _ (by decide +kernel)) ggX12_odds_X12_drawDays
set_option maxRecDepth 20000 in
theorem ggX12_odds_X12_takeBack : GoodIn wsX12_odds wsX12_takeBack := goodIn_r _ [77, 2, 15, 78, 79, 80, 81, 82, 83, 84, 85, 86, 87, 88, 89, 90, 91, 92, 93, 94, 95, 96, 97, 98, 99, 100, 101, 102, 103, 104, 105, 106, 107, 108, 109, 110, 111, 112, 113, 114, 115, 116, 117, 118, 119, 120, 121, 122, 123, 124, 125] (by decide +kernel) (by decide +kernel)
set_option maxRecDepth 20000 in
theorem gX12_odds_X12_takeBack : GoodIn wsX12_odds (wsV RX12 355 RX12 yX12_takeBack wsX12_takeBack) := goodIn_app (goodIn_of _ (by decide +kernel)) ggX12_odds_X12_takeBack
set_option maxRecDepth 20000 in
theorem ggX12_readNamed_X12_isName : GoodIn wsX12_readNamed wsX12_isName := goodIn_r _ [8, 9, 2, 10, 11, 7, 12, 13, 14, 15, 16, 17, 48, 49, 50, 51, 52, 53, 54, 55, 56, 57, 58, 59, 60, 61, 62, 63, 64, 65, 66, 67, 68, 69, 70, 71, 72, 73, 74, 75, 76, 77, 78, 79, 80, 81, 82, 83, 84, 85, 86, 87, 88, 89, 90, 91, 92, 93, 94, 95] (by decide +kernel) (by decide +kernel)
set_option maxRecDepth 20000 in
theorem gX12_readNamed_X12_isName : GoodIn wsX12_readNamed (wsV RX12 175 RX12 yX12_isName wsX12_isName) := goodIn_app (goodIn_of _ (by decide +kernel)) ggX12_readNamed_X12_isName
set_option maxRecDepth 20000 in
theorem ggX12_readNamed_X12_bad : GoodIn wsX12_readNamed wsX12_bad := goodIn_r _ [21, 9, 22, 23, 24, 48, 49, 50, 51, 52, 53, 54, 55, 56, 57, 58, 59, 60, 61, 62, 63, 64, 65, 66, 67, 68, 69, 70, 71, 72, 73, 74, 75, 76, 77, 78, 79, 80, 81, 82, 83, 84, 85, 86, 87, 88, 89, 90, 91, 92, 93, 94, 95] (by decide +kernel) (by decide +kernel)
set_option maxRecDepth 20000 in
theorem gX12_readNamed_X12_bad : GoodIn wsX12_readNamed (wsV RX12 72 RX12 yX12_bad wsX12_bad) := goodIn_app (goodIn_of _ (by decide +kernel)) ggX12_readNamed_X12_bad
set_option maxRecDepth 20000 in
theorem ggX12_readNamed_X12_findIn : GoodIn wsX12_readNamed wsX12_findIn := goodIn_r _ [27] (by decide +kernel) (by decide +kernel)
set_option maxRecDepth 20000 in
theorem gX12_readNamed_X12_findIn : GoodIn wsX12_readNamed (va_wsS RX12 179 yX12_findIn wsX12_findIn) := goodIn_app (goodIn_of _ (by decide +kernel)) ggX12_readNamed_X12_findIn
set_option maxRecDepth 20000 in
theorem ggX12_readNamed_X12_go : GoodIn wsX12_readNamed wsX12_go := goodIn_r _ [31, 32, 33, 34, 23, 35, 9, 36, 2, 37, 16, 17, 38, 39, 7, 40, 41, 42, 43, 44, 45, 46, 47, 48, 49, 50, 51, 52, 53, 54, 55, 56, 57, 58, 59, 60, 61, 62, 63, 64, 65, 66, 67, 68, 69, 70, 71, 72, 73, 74, 75, 76, 77, 78, 79, 80, 81, 82, 83, 84, 85, 86, 87, 88, 89, 90, 91, 92, 93, 94, 95] (by decide +kernel) (by decide +kernel)
set_option maxRecDepth 20000 in
theorem gX12_readNamed_X12_go : GoodIn wsX12_readNamed (wsV RX12 82 RX12 yX12_go wsX12_go) := goodIn_app (goodIn_of _ (by decide +kernel)) ggX12_readNamed_X12_go
set_option maxRecDepth 20000 in
theorem ggX12_readDoes_X12_isWord : GoodIn wsX12_readDoes wsX12_isWord := goodIn_r _ [6, 7, 8, 9, 10, 5, 11, 12, 13, 14, 15, 16, 44, 45, 46, 47, 48, 49, 50, 51, 52, 53, 54, 55, 56, 57, 58, 59, 60, 61, 62, 63, 64, 65, 66, 67, 68, 69, 70, 71, 72, 73, 74, 75, 76, 77, 78, 79, 80, 81, 82, 83, 84, 85, 86, 87, 88, 89, 90, 91] (by decide +kernel) (by decide +kernel)
set_option maxRecDepth 20000 in
theorem gX12_readDoes_X12_isWord : GoodIn wsX12_readDoes (wsV RX12 197 RX12 yX12_isWord wsX12_isWord) := goodIn_app (goodIn_of _ (by decide +kernel)) ggX12_readDoes_X12_isWord
set_option maxRecDepth 20000 in
theorem ggX12_readDoes_X12_bad : GoodIn wsX12_readDoes wsX12_bad := goodIn_r _ [20, 7, 21, 22, 23, 44, 45, 46, 47, 48, 49, 50, 51, 52, 53, 54, 55, 56, 57, 58, 59, 60, 61, 62, 63, 64, 65, 66, 67, 68, 69, 70, 71, 72, 73, 74, 75, 76, 77, 78, 79, 80, 81, 82, 83, 84, 85, 86, 87, 88, 89, 90, 91] (by decide +kernel) (by decide +kernel)
set_option maxRecDepth 20000 in
theorem gX12_readDoes_X12_bad : GoodIn wsX12_readDoes (wsV RX12 72 RX12 yX12_bad wsX12_bad) := goodIn_app (goodIn_of _ (by decide +kernel)) ggX12_readDoes_X12_bad
set_option maxRecDepth 20000 in
theorem ggX12_readDoes_X12_go : GoodIn wsX12_readDoes wsX12_go := goodIn_r _ [27, 28, 29, 30, 22, 31, 7, 32, 8, 33, 15, 16, 34, 35, 5, 36, 37, 38, 39, 40, 41, 42, 43, 44, 45, 46, 47, 48, 49, 50, 51, 52, 53, 54, 55, 56, 57, 58, 59, 60, 61, 62, 63, 64, 65, 66, 67, 68, 69, 70, 71, 72, 73, 74, 75, 76, 77, 78, 79, 80, 81, 82, 83, 84, 85, 86, 87, 88, 89, 90, 91] (by decide +kernel) (by decide +kernel)
set_option maxRecDepth 20000 in
theorem gX12_readDoes_X12_go : GoodIn wsX12_readDoes (wsV RX12 82 RX12 yX12_go wsX12_go) := goodIn_app (goodIn_of _ (by decide +kernel)) ggX12_readDoes_X12_go
set_option maxRecDepth 20000 in
theorem ggX12_readBookLine_X12_isWord : GoodIn wsX12_readBookLine wsX12_isWord := goodIn_r _ [11, 12, 3, 13, 14, 10, 15, 16, 17, 18, 19, 20, 78, 79, 80, 81, 82, 83, 84, 85, 86, 87, 88, 89, 90, 91, 92, 93, 94, 95, 96, 97, 98, 99, 100, 101, 102, 103, 104, 105, 106, 107, 108, 109, 110, 111, 112, 113, 114, 115, 116, 117, 118, 119, 120, 121, 122, 123, 124, 125] (by decide +kernel) (by decide +kernel)
set_option maxRecDepth 20000 in
theorem gX12_readBookLine_X12_isWord : GoodIn wsX12_readBookLine (wsV RX12 197 RX12 yX12_isWord wsX12_isWord) := goodIn_app (goodIn_of _ (by decide +kernel)) ggX12_readBookLine_X12_isWord
set_option maxRecDepth 20000 in
theorem ggX12_readBookLine_X12_isName : GoodIn wsX12_readBookLine wsX12_isName := goodIn_r _ [24, 12, 3, 13, 14, 10, 15, 16, 17, 18, 19, 20, 78, 79, 80, 81, 82, 83, 84, 85, 86, 87, 88, 89, 90, 91, 92, 93, 94, 95, 96, 97, 98, 99, 100, 101, 102, 103, 104, 105, 106, 107, 108, 109, 110, 111, 112, 113, 114, 115, 116, 117, 118, 119, 120, 121, 122, 123, 124, 125] (by decide +kernel) (by decide +kernel)
set_option maxRecDepth 20000 in
theorem gX12_readBookLine_X12_isName : GoodIn wsX12_readBookLine (wsV RX12 175 RX12 yX12_isName wsX12_isName) := goodIn_app (goodIn_of _ (by decide +kernel)) ggX12_readBookLine_X12_isName
set_option maxRecDepth 20000 in
theorem ggX12_readBookLine_X12_bad : GoodIn wsX12_readBookLine wsX12_bad := goodIn_r _ [28, 12, 29, 30, 31, 78, 79, 80, 81, 82, 83, 84, 85, 86, 87, 88, 89, 90, 91, 92, 93, 94, 95, 96, 97, 98, 99, 100, 101, 102, 103, 104, 105, 106, 107, 108, 109, 110, 111, 112, 113, 114, 115, 116, 117, 118, 119, 120, 121, 122, 123, 124, 125] (by decide +kernel) (by decide +kernel)
set_option maxRecDepth 20000 in
theorem gX12_readBookLine_X12_bad : GoodIn wsX12_readBookLine (wsV RX12 72 RX12 yX12_bad wsX12_bad) := goodIn_app (goodIn_of _ (by decide +kernel)) ggX12_readBookLine_X12_bad
set_option maxRecDepth 20000 in
theorem ggX12_readBookLine_X12_findIn : GoodIn wsX12_readBookLine wsX12_findIn := goodIn_r _ [34] (by decide +kernel) (by decide +kernel)
set_option maxRecDepth 20000 in
theorem gX12_readBookLine_X12_findIn : GoodIn wsX12_readBookLine (va_wsS RX12 179 yX12_findIn wsX12_findIn) := goodIn_app (goodIn_of _ (by decide +kernel)) ggX12_readBookLine_X12_findIn
set_option maxRecDepth 20000 in
theorem ggX12_readBookLine_X12_go : GoodIn wsX12_readBookLine wsX12_go := goodIn_r _ [38, 39, 40, 41, 30, 42, 12, 43, 3, 44, 19, 20, 45, 46, 10, 47, 48, 49, 50, 51, 52, 53, 54, 78, 79, 80, 81, 82, 83, 84, 85, 86, 87, 88, 89, 90, 91, 92, 93, 94, 95, 96, 97, 98, 99, 100, 101, 102, 103, 104, 105, 106, 107, 108, 109, 110, 111, 112, 113, 114, 115, 116, 117, 118, 119, 120, 121, 122, 123, 124, 125] (by decide +kernel) (by decide +kernel)
set_option maxRecDepth 20000 in
theorem gX12_readBookLine_X12_go : GoodIn wsX12_readBookLine (wsV RX12 82 RX12 yX12_go wsX12_go) := goodIn_app (goodIn_of _ (by decide +kernel)) ggX12_readBookLine_X12_go
set_option maxRecDepth 20000 in
theorem ggX12_readBookLine_X12_readDoes : GoodIn wsX12_readBookLine wsX12_readDoes := goodIn_r _ [58, 5, 7, 8, 9, 10, 11, 12, 3, 13, 14, 15, 16, 17, 18, 19, 20, 25, 26, 27, 28, 29, 30, 31, 35, 36, 37, 38, 39, 40, 41, 42, 43, 44, 45, 46, 47, 48, 49, 50, 51, 52, 53, 54, 78, 79, 80, 81, 82, 83, 84, 85, 86, 87, 88, 89, 90, 91, 92, 93, 94, 95, 96, 97, 98, 99, 100, 101, 102, 103, 104, 105, 106, 107, 108, 109, 110, 111, 112, 113, 114, 115, 116, 117, 118, 119, 120, 121, 122, 123, 124, 125] (by decide +kernel) (by decide +kernel)
set_option maxRecDepth 20000 in
theorem gX12_readBookLine_X12_readDoes : GoodIn wsX12_readBookLine (wsV RX12 361 RX12 yX12_readDoes wsX12_readDoes) := goodIn_app (goodIn_of _ (by decide +kernel)) ggX12_readBookLine_X12_readDoes
set_option maxRecDepth 20000 in
theorem ggX12_readBookLine_X12_readEnd : GoodIn wsX12_readBookLine wsX12_readEnd := goodIn_r _ [62, 63, 64, 65, 10, 66, 12, 43, 25, 26, 27, 28, 29, 30, 31, 35, 36, 37, 38, 39, 40, 41, 42, 3, 44, 19, 20, 45, 46, 47, 48, 49, 50, 51, 52, 53, 54, 78, 79, 80, 81, 82, 83, 84, 85, 86, 87, 88, 89, 90, 91, 92, 93, 94, 95, 96, 97, 98, 99, 100, 101, 102, 103, 104, 105, 106, 107, 108, 109, 110, 111, 112, 113, 114, 115, 116, 117, 118, 119, 120, 121, 122, 123, 124, 125] (by decide +kernel) (by decide +kernel)
set_option maxRecDepth 20000 in
theorem gX12_readBookLine_X12_readEnd : GoodIn wsX12_readBookLine (wsV RX12 224 RX12 yX12_readEnd wsX12_readEnd) := goodIn_app (goodIn_of _ (by decide +kernel)) ggX12_readBookLine_X12_readEnd
set_option maxRecDepth 20000 in
theorem ggX12_readBookLine_X12_readNumber : GoodIn wsX12_readBookLine wsX12_readNumber := goodIn_r _ [70, 12, 44, 6, 25, 26, 27, 10, 28, 29, 30, 31, 71, 72, 73, 35, 36, 37, 38, 39, 40, 41, 42, 43, 3, 19, 20, 45, 46, 47, 48, 49, 50, 51, 52, 53, 54, 78, 79, 80, 81, 82, 83, 84, 85, 86, 87, 88, 89, 90, 91, 92, 93, 94, 95, 96, 97, 98, 99, 100, 101, 102, 103, 104, 105, 106, 107, 108, 109, 110, 111, 112, 113, 114, 115, 116, 117, 118, 119, 120, 121, 122, 123, 124, 125] (by decide +kernel) (by decide +kernel)
set_option maxRecDepth 20000 in
theorem gX12_readBookLine_X12_readNumber : GoodIn wsX12_readBookLine (wsV RX12 190 RX12 yX12_readNumber wsX12_readNumber) := goodIn_app (goodIn_of _ (by decide +kernel)) ggX12_readBookLine_X12_readNumber
set_option maxRecDepth 20000 in
theorem ggX12_readBookLine_X12_readNamed : GoodIn wsX12_readBookLine wsX12_readNamed := goodIn_r _ [77, 1, 3, 6, 21, 22, 23, 10, 24, 12, 13, 14, 15, 16, 17, 18, 19, 20, 25, 26, 27, 28, 29, 30, 31, 32, 33, 34, 35, 36, 37, 38, 39, 40, 41, 42, 43, 44, 45, 46, 47, 48, 49, 50, 51, 52, 53, 54, 78, 79, 80, 81, 82, 83, 84, 85, 86, 87, 88, 89, 90, 91, 92, 93, 94, 95, 96, 97, 98, 99, 100, 101, 102, 103, 104, 105, 106, 107, 108, 109, 110, 111, 112, 113, 114, 115, 116, 117, 118, 119, 120, 121, 122, 123, 124, 125] (by decide +kernel) (by decide +kernel)
set_option maxRecDepth 20000 in
theorem gX12_readBookLine_X12_readNamed : GoodIn wsX12_readBookLine (wsV RX12 364 RX12 yX12_readNamed wsX12_readNamed) := goodIn_app (goodIn_of _ (by decide +kernel)) ggX12_readBookLine_X12_readNamed
set_option maxRecDepth 20000 in
theorem ggX12_goBy_X12_passDays : GoodIn wsX12_goBy wsX12_passDays := goodIn_r _ [7, 2, 8, 9, 6, 10, 52, 53, 54, 55, 56, 57, 58, 59, 60, 61, 62, 63, 64, 65, 66, 67, 68, 69, 70, 71, 72, 73, 74, 75, 76, 77, 78, 79, 80, 81, 82, 83, 84, 85, 86, 87, 88, 89, 90, 91, 92, 93, 94, 95, 96, 97, 98, 99] (by decide +kernel) (by decide +kernel)
set_option maxRecDepth 20000 in
theorem gX12_goBy_X12_passDays : GoodIn wsX12_goBy (wsV RX12 299 RX12 yX12_passDays wsX12_passDays) := goodIn_app (goodIn_of _ (by decide +kernel)) ggX12_goBy_X12_passDays
set_option maxRecDepth 20000 in
theorem ggX12_goBy_X12_why : GoodIn wsX12_goBy wsX12_why := goodIn_r _ [14, 2, 15, 16, 6, 17, 18, 19, 20, 21, 52, 53, 54, 55, 56, 57, 58, 59, 60, 61, 62, 63, 64, 65, 66, 67, 68, 69, 70, 71, 72, 73, 74, 75, 76, 77, 78, 79, 80, 81, 82, 83, 84, 85, 86, 87, 88, 89, 90, 91, 92, 93, 94, 95, 96, 97, 98, 99] (by decide +kernel) (by decide +kernel)
set_option maxRecDepth 20000 in
theorem gX12_goBy_X12_why : GoodIn wsX12_goBy (wsV RX12 285 RX12 yX12_why wsX12_why) := goodIn_app (goodIn_of _ (by decide +kernel)) ggX12_goBy_X12_why
set_option maxRecDepth 20000 in
theorem ggX12_goBy_X12_live : GoodIn wsX12_goBy wsX12_live := goodIn_r _ [25, 2, 26, 27, 28, 6, 29, 18, 19, 20, 21, 30, 31, 32, 33, 34, 35, 36, 37, 38, 39, 40, 41, 42, 43, 44, 45, 46, 47, 15, 16, 17, 48, 49, 50, 51, 8, 9, 10, 52, 53, 54, 55, 56, 57, 58, 59, 60, 61, 62, 63, 64, 65, 66, 67, 68, 69, 70, 71, 72, 73, 74, 75, 76, 77, 78, 79, 80, 81, 82, 83, 84, 85, 86, 87, 88, 89, 90, 91, 92, 93, 94, 95, 96, 97, 98, 99] (by decide +kernel) (by decide +kernel)
set_option maxRecDepth 20000 in
theorem gX12_goBy_X12_live : GoodIn wsX12_goBy (wsV RX12 291 RX12 yX12_live wsX12_live) := goodIn_app (goodIn_of _ (by decide +kernel)) ggX12_goBy_X12_live
set_option maxRecDepth 20000 in
theorem ggX12_book_X12_isIn : GoodIn wsX12_book wsX12_isIn := goodIn_r _ [11] (by decide +kernel) (by decide +kernel)
set_option maxRecDepth 20000 in
theorem gX12_book_X12_isIn : GoodIn wsX12_book (va_wsS RX12 75 yX12_isIn wsX12_isIn) := goodIn_app (goodIn_of _ (by decide +kernel)) ggX12_book_X12_isIn
set_option maxRecDepth 20000 in
theorem ggX12_book_X12_begin : GoodIn wsX12_book wsX12_begin := goodIn_r _ [15, 1, 16, 17, 18, 19, 20, 21, 22, 10, 23, 24, 25, 26, 27, 28, 29, 30, 3, 31, 32, 33, 34, 35, 36, 37, 38, 39, 40, 41, 42, 43, 44, 45, 169, 170, 171, 172, 173, 174, 175, 176, 177, 178, 179, 180, 181, 182, 183, 184, 185, 186, 187, 188, 189, 190, 191, 192, 193, 194, 195, 196, 197, 198, 199, 200, 201, 202, 203, 204, 205, 206, 207, 208, 209, 210, 211, 212, 213, 214, 215, 216] (by decide +kernel) (by decide +kernel)
set_option maxRecDepth 20000 in
theorem gX12_book_X12_begin : GoodIn wsX12_book (wsV RX12 218 RX12 yX12_begin wsX12_begin) := goodIn_app (goodIn_of _ (by decide +kernel)) ggX12_book_X12_begin
set_option maxRecDepth 20000 in
theorem ggX12_book_X12_readBookLine : GoodIn wsX12_book wsX12_readBookLine := goodIn_r _ [49, 50, 6, 32, 2, 51, 52, 53, 54, 55, 10, 56, 3, 57, 58, 59, 60, 61, 62, 34, 35, 63, 64, 65, 66, 67, 68, 69, 70, 18, 30, 4, 71, 72, 73, 25, 26, 27, 28, 19, 16, 29, 17, 31, 33, 36, 37, 38, 39, 40, 41, 42, 43, 44, 45, 74, 75, 76, 77, 78, 79, 80, 81, 82, 83, 84, 85, 86, 87, 88, 89, 8, 9, 11, 90, 91, 92, 93, 169, 170, 171, 172, 173, 174, 175, 176, 177, 178, 179, 180, 181, 182, 183, 184, 185, 186, 187, 188, 189, 190, 191, 192, 193, 194, 195, 196, 197, 198, 199, 200, 201, 202, 203, 204, 205, 206, 207, 208, 209, 210, 211, 212, 213, 214, 215, 216] (by decide +kernel) (by decide +kernel)
set_option maxRecDepth 20000 in
theorem gX12_book_X12_readBookLine : GoodIn wsX12_book (wsV RX12 367 RX12 yX12_readBookLine wsX12_readBookLine) := goodIn_app (goodIn_of _ (by decide +kernel)) ggX12_book_X12_readBookLine
set_option maxRecDepth 20000 in
theorem ggX12_book_X12_layAside : GoodIn wsX12_book wsX12_layAside := goodIn_r _ [97, 98, 6, 169, 170, 171, 172, 173, 174, 175, 176, 177, 178, 179, 180, 181, 182, 183, 184, 185, 186, 187, 188, 189, 190, 191, 192, 193, 194, 195, 196, 197, 198, 199, 200, 201, 202, 203, 204, 205, 206, 207, 208, 209, 210, 211, 212, 213, 214, 215, 216] (by decide +kernel) (by decide +kernel)
set_option maxRecDepth 20000 in
theorem gX12_book_X12_layAside : GoodIn wsX12_book (wsV RX12 352 RX12 yX12_layAside wsX12_layAside) := goodIn_app (goodIn_of _ (by decide +kernel)) ggX12_book_X12_layAside
set_option maxRecDepth 20000 in
theorem ggX12_book_X12_goBy : GoodIn wsX12_book wsX12_goBy := goodIn_r _ [102, 51, 6, 103, 104, 105, 10, 106, 107, 108, 109, 110, 111, 112, 113, 114, 115, 116, 117, 118, 119, 120, 121, 122, 123, 124, 125, 126, 127, 128, 129, 130, 131, 132, 133, 134, 135, 136, 137, 138, 139, 140, 141, 142, 143, 144, 145, 146, 147, 148, 149, 150, 169, 170, 171, 172, 173, 174, 175, 176, 177, 178, 179, 180, 181, 182, 183, 184, 185, 186, 187, 188, 189, 190, 191, 192, 193, 194, 195, 196, 197, 198, 199, 200, 201, 202, 203, 204, 205, 206, 207, 208, 209, 210, 211, 212, 213, 214, 215, 216] (by decide +kernel) (by decide +kernel)
set_option maxRecDepth 20000 in
theorem gX12_book_X12_goBy : GoodIn wsX12_book (wsV RX12 370 RX12 yX12_goBy wsX12_goBy) := goodIn_app (goodIn_of _ (by decide +kernel)) ggX12_book_X12_goBy
set_option maxRecDepth 20000 in
theorem ggX12_book_X12_casesThat : GoodIn wsX12_book wsX12_casesThat := goodIn_r _ [154, 6, 169, 170, 171, 172, 173, 174, 175, 176, 177, 178, 179, 180, 181, 182, 183, 184, 185, 186, 187, 188, 189, 190, 191, 192, 193, 194, 195, 196, 197, 198, 199, 200, 201, 202, 203, 204, 205, 206, 207, 208, 209, 210, 211, 212, 213, 214, 215, 216] (by decide +kernel) (by decide +kernel)
set_option maxRecDepth 20000 in
theorem gX12_book_X12_casesThat : GoodIn wsX12_book (wsV RX12 271 RX12 yX12_casesThat wsX12_casesThat) := goodIn_app (goodIn_of _ (by decide +kernel)) ggX12_book_X12_casesThat
set_option maxRecDepth 20000 in
theorem ggX12_book_X12_stay : GoodIn wsX12_book wsX12_stay := goodIn_r _ [158, 6, 98, 159, 160, 161, 10, 162, 163, 164, 165, 166, 167, 168, 169, 170, 171, 172, 173, 174, 175, 176, 177, 178, 179, 180, 181, 182, 183, 184, 185, 186, 187, 188, 189, 190, 191, 192, 193, 194, 195, 196, 197, 198, 199, 200, 201, 202, 203, 204, 205, 206, 207, 208, 209, 210, 211, 212, 213, 214, 215, 216] (by decide +kernel) (by decide +kernel)
set_option maxRecDepth 20000 in
theorem gX12_book_X12_stay : GoodIn wsX12_book (wsV RX12 377 RX12 yX12_stay wsX12_stay) := goodIn_app (goodIn_of _ (by decide +kernel)) ggX12_book_X12_stay
set_option maxRecDepth 20000 in
theorem ggX12_stay_X12_snap : GoodIn wsX12_stay wsX12_snap := goodIn_r _ [7, 8, 9, 1, 14, 15, 16, 17, 18, 19, 20, 21, 22, 23, 24, 25, 26, 27, 28, 29, 30, 31, 32, 33, 34, 35, 36, 37, 38, 39, 40, 41, 42, 43, 44, 45, 46, 47, 48, 49, 50, 51, 52, 53, 54, 55, 56, 57, 58, 59, 60, 61] (by decide +kernel) (by decide +kernel)
set_option maxRecDepth 20000 in
theorem gX12_stay_X12_snap : GoodIn wsX12_stay (wsV RX12 288 RX12 yX12_snap wsX12_snap) := goodIn_app (goodIn_of _ (by decide +kernel)) ggX12_stay_X12_snap
set_option maxRecDepth 20000 in
theorem ggX12_stay_X12_takeBack : GoodIn wsX12_stay wsX12_takeBack := goodIn_r _ [13, 1, 2, 14, 15, 16, 17, 18, 19, 20, 21, 22, 23, 24, 25, 26, 27, 28, 29, 30, 31, 32, 33, 34, 35, 36, 37, 38, 39, 40, 41, 42, 43, 44, 45, 46, 47, 48, 49, 50, 51, 52, 53, 54, 55, 56, 57, 58, 59, 60, 61] (by decide +kernel) (by decide +kernel)
set_option maxRecDepth 20000 in
theorem gX12_stay_X12_takeBack : GoodIn wsX12_stay (wsV RX12 355 RX12 yX12_takeBack wsX12_takeBack) := goodIn_app (goodIn_of _ (by decide +kernel)) ggX12_stay_X12_takeBack
set_option maxRecDepth 20000 in
theorem ggX12_told_X12_isIn : GoodIn wsX12_told wsX12_isIn := goodIn_r _ [7] (by decide +kernel) (by decide +kernel)
set_option maxRecDepth 20000 in
theorem gX12_told_X12_isIn : GoodIn wsX12_told (va_wsS RX12 75 yX12_isIn wsX12_isIn) := goodIn_app (goodIn_of _ (by decide +kernel)) ggX12_told_X12_isIn
set_option maxRecDepth 20000 in
theorem ggX12_readRing_X12_readNamed : GoodIn wsX12_readRing wsX12_readNamed := goodIn_r _ [7, 8, 9, 2, 10, 11, 12, 6, 13, 14, 15, 16, 17, 18, 19, 20, 21, 22, 23, 24, 25, 26, 27, 28, 29, 30, 31, 32, 33, 34, 35, 36, 37, 38, 39, 40, 41, 42, 43, 44, 45, 46, 47, 48, 49, 50, 51, 52, 53, 54, 55, 56, 57, 58, 59, 60, 61, 62, 63, 64, 65, 66, 67, 68, 69, 70, 71, 72, 73, 74, 75, 76, 77, 78, 79, 80, 81, 82, 83, 84, 85, 86, 87, 88, 89, 90, 91, 92, 93, 94, 95, 96, 97, 98, 99, 100] (by decide +kernel) (by decide +kernel)
set_option maxRecDepth 20000 in
theorem gX12_readRing_X12_readNamed : GoodIn wsX12_readRing (wsV RX12 364 RX12 yX12_readNamed wsX12_readNamed) := goodIn_app (goodIn_of _ (by decide +kernel)) ggX12_readRing_X12_readNamed
set_option maxRecDepth 20000 in
theorem ggX12_areOneRing_X12_isOneRing_ : GoodIn wsX12_areOneRing wsX12_isOneRing_ := goodIn_r _ [5, 6, 7, 8, 4, 9, 10, 11, 12, 13, 14, 15, 16, 17, 18, 19, 20, 21, 22, 23, 24, 25, 26, 27, 28, 29, 30, 31, 32, 33, 34, 35, 36, 37, 38, 39, 40, 41, 42, 43, 44, 45, 46, 47, 48, 49, 50, 51, 52, 53, 54, 55, 56, 57, 58, 59, 60, 61, 62, 63, 64, 65, 66, 67, 68, 69, 70, 71] (by decide +kernel) (by decide +kernel)
set_option maxRecDepth 20000 in
theorem gX12_areOneRing_X12_isOneRing_ : GoodIn wsX12_areOneRing (wsV RX12 277 RX12 yX12_isOneRing_ wsX12_isOneRing_) := goodIn_app (goodIn_of _ (by decide +kernel)) ggX12_areOneRing_X12_isOneRing_
set_option maxRecDepth 20000 in
theorem ggX12_readOr_X12_readAnd : GoodIn wsX12_readOr wsX12_readAnd := goodIn_r _ [47, 1, 48, 49, 50, 5, 6, 7, 8, 9, 10, 11, 12, 13, 14, 15, 16, 17, 18, 19, 20, 21, 22, 23, 24, 25, 26, 27, 28, 29, 30, 31, 32, 33, 34, 35, 36, 37, 38, 39, 40, 41, 42, 43, 44, 45, 46, 51, 52, 53, 54, 55, 56, 57, 58, 59, 60, 61, 62, 63, 64, 65, 0, 2, 3, 4, 66, 67, 68, 69, 70, 71, 72, 73, 74, 75, 76, 77, 78, 79, 80, 81, 82, 83, 84, 85, 86, 87, 88, 89, 90, 91, 92, 93, 94, 95, 96, 97, 98, 99, 100, 101, 102, 103, 104, 105, 106, 107, 108, 109, 110, 111, 112, 113, 114, 115, 116, 117, 118, 119, 120, 121, 122, 123, 124, 125, 126, 127, 128, 129, 130, 131, 132, 133, 134, 135, 136, 137, 138, 139, 140, 141, 142, 143, 144, 145, 146, 147, 148, 149, 150, 151, 152, 153, 154, 155] (by decide +kernel) (by decide +kernel)
set_option maxRecDepth 20000 in
theorem gX12_readOr_X12_readAnd : GoodIn wsX12_readOr (wsV RX12 384 RX12 yX12_readAnd wsX12_readAnd) := goodIn_app (goodIn_of _ (by decide +kernel)) ggX12_readOr_X12_readAnd
set_option maxRecDepth 20000 in
theorem ggX12_readOr_X12_isWord : GoodIn wsX12_readOr wsX12_isWord := goodIn_r _ [9, 10, 11, 12, 13, 5, 14, 15, 16, 17, 18, 19, 108, 109, 110, 111, 112, 113, 114, 115, 116, 117, 118, 119, 120, 121, 122, 123, 124, 125, 126, 127, 128, 129, 130, 131, 132, 133, 134, 135, 136, 137, 138, 139, 140, 141, 142, 143, 144, 145, 146, 147, 148, 149, 150, 151, 152, 153, 154, 155] (by decide +kernel) (by decide +kernel)
set_option maxRecDepth 20000 in
theorem gX12_readOr_X12_isWord : GoodIn wsX12_readOr (wsV RX12 197 RX12 yX12_isWord wsX12_isWord) := goodIn_app (goodIn_of _ (by decide +kernel)) ggX12_readOr_X12_isWord
set_option maxRecDepth 20000 in
theorem ggX12_readOr_X12_go : GoodIn wsX12_readOr wsX12_go := goodIn_r _ [23, 24, 25, 26, 27, 28, 10, 29, 11, 30, 18, 19, 31, 32, 5, 33, 34, 35, 36, 37, 38, 39, 40, 108, 109, 110, 111, 112, 113, 114, 115, 116, 117, 118, 119, 120, 121, 122, 123, 124, 125, 126, 127, 128, 129, 130, 131, 132, 133, 134, 135, 136, 137, 138, 139, 140, 141, 142, 143, 144, 145, 146, 147, 148, 149, 150, 151, 152, 153, 154, 155] (by decide +kernel) (by decide +kernel)
set_option maxRecDepth 20000 in
theorem gX12_readOr_X12_go : GoodIn wsX12_readOr (wsV RX12 82 RX12 yX12_go wsX12_go) := goodIn_app (goodIn_of _ (by decide +kernel)) ggX12_readOr_X12_go
set_option maxRecDepth 20000 in
theorem ggX12_readOr_X12_saysOne : GoodIn wsX12_readOr wsX12_saysOne := goodIn_r _ [44, 45, 46, 108, 109, 110, 111, 112, 113, 114, 115, 116, 117, 118, 119, 120, 121, 122, 123, 124, 125, 126, 127, 128, 129, 130, 131, 132, 133, 134, 135, 136, 137, 138, 139, 140, 141, 142, 143, 144, 145, 146, 147, 148, 149, 150, 151, 152, 153, 154, 155] (by decide +kernel) (by decide +kernel)
set_option maxRecDepth 20000 in
theorem gX12_readOr_X12_saysOne : GoodIn wsX12_readOr (wsV RX12 390 RX12 yX12_saysOne wsX12_saysOne) := goodIn_app (goodIn_of _ (by decide +kernel)) ggX12_readOr_X12_saysOne
set_option maxRecDepth 20000 in
theorem ggX12_readAnd_X12_readSaid : GoodIn wsX12_readAnd wsX12_readSaid := goodIn_r _ [66, 67, 68, 1, 51, 52, 53, 5, 54, 10, 29, 6, 7, 8, 9, 11, 12, 13, 14, 15, 16, 17, 18, 19, 55, 56, 57, 58, 59, 27, 60, 20, 21, 22, 23, 24, 25, 26, 28, 30, 31, 32, 33, 34, 35, 36, 37, 38, 39, 40, 69, 70, 71, 72, 73, 74, 41, 42, 43, 44, 45, 46, 75, 76, 77, 78, 79, 80, 81, 82, 83, 84, 85, 86, 87, 88, 89, 90, 91, 92, 93, 94, 95, 96, 97, 98, 99, 100, 101, 102, 103, 104, 105, 106, 107, 0, 2, 3, 4, 47, 48, 49, 50, 61, 62, 63, 64, 65, 108, 109, 110, 111, 112, 113, 114, 115, 116, 117, 118, 119, 120, 121, 122, 123, 124, 125, 126, 127, 128, 129, 130, 131, 132, 133, 134, 135, 136, 137, 138, 139, 140, 141, 142, 143, 144, 145, 146, 147, 148, 149, 150, 151, 152, 153, 154, 155] (by decide +kernel) (by decide +kernel)
set_option maxRecDepth 20000 in
theorem gX12_readAnd_X12_readSaid : GoodIn wsX12_readAnd (wsV RX12 394 RX12 yX12_readSaid wsX12_readSaid) := goodIn_app (goodIn_of _ (by decide +kernel)) ggX12_readAnd_X12_readSaid
set_option maxRecDepth 20000 in
theorem ggX12_readAnd_X12_isWord : GoodIn wsX12_readAnd wsX12_isWord := goodIn_r _ [9, 10, 11, 12, 13, 5, 14, 15, 16, 17, 18, 19, 108, 109, 110, 111, 112, 113, 114, 115, 116, 117, 118, 119, 120, 121, 122, 123, 124, 125, 126, 127, 128, 129, 130, 131, 132, 133, 134, 135, 136, 137, 138, 139, 140, 141, 142, 143, 144, 145, 146, 147, 148, 149, 150, 151, 152, 153, 154, 155] (by decide +kernel) (by decide +kernel)
set_option maxRecDepth 20000 in
theorem gX12_readAnd_X12_isWord : GoodIn wsX12_readAnd (wsV RX12 197 RX12 yX12_isWord wsX12_isWord) := goodIn_app (goodIn_of _ (by decide +kernel)) ggX12_readAnd_X12_isWord
set_option maxRecDepth 20000 in
theorem ggX12_readAnd_X12_go : GoodIn wsX12_readAnd wsX12_go := goodIn_r _ [23, 24, 25, 26, 27, 28, 10, 29, 11, 30, 18, 19, 31, 32, 5, 33, 34, 35, 36, 37, 38, 39, 40, 108, 109, 110, 111, 112, 113, 114, 115, 116, 117, 118, 119, 120, 121, 122, 123, 124, 125, 126, 127, 128, 129, 130, 131, 132, 133, 134, 135, 136, 137, 138, 139, 140, 141, 142, 143, 144, 145, 146, 147, 148, 149, 150, 151, 152, 153, 154, 155] (by decide +kernel) (by decide +kernel)
set_option maxRecDepth 20000 in
theorem gX12_readAnd_X12_go : GoodIn wsX12_readAnd (wsV RX12 82 RX12 yX12_go wsX12_go) := goodIn_app (goodIn_of _ (by decide +kernel)) ggX12_readAnd_X12_go
set_option maxRecDepth 20000 in
theorem ggX12_readAnd_X12_saysOne : GoodIn wsX12_readAnd wsX12_saysOne := goodIn_r _ [44, 45, 46, 108, 109, 110, 111, 112, 113, 114, 115, 116, 117, 118, 119, 120, 121, 122, 123, 124, 125, 126, 127, 128, 129, 130, 131, 132, 133, 134, 135, 136, 137, 138, 139, 140, 141, 142, 143, 144, 145, 146, 147, 148, 149, 150, 151, 152, 153, 154, 155] (by decide +kernel) (by decide +kernel)
set_option maxRecDepth 20000 in
theorem gX12_readAnd_X12_saysOne : GoodIn wsX12_readAnd (wsV RX12 390 RX12 yX12_saysOne wsX12_saysOne) := goodIn_app (goodIn_of _ (by decide +kernel)) ggX12_readAnd_X12_saysOne
set_option maxRecDepth 20000 in
theorem ggX12_readSaid_X12_isSign : GoodIn wsX12_readSaid wsX12_isSign := goodIn_r _ [8, 9, 10, 108, 109, 110, 111, 112, 113, 114, 115, 116, 117, 118, 119, 120, 121, 122, 123, 124, 125, 126, 127, 128, 129, 130, 131, 132, 133, 134, 135, 136, 137, 138, 139, 140, 141, 142, 143, 144, 145, 146, 147, 148, 149, 150, 151, 152, 153, 154, 155] (by decide +kernel) (by decide +kernel)
set_option maxRecDepth 20000 in
theorem gX12_readSaid_X12_isSign : GoodIn wsX12_readSaid (wsV RX12 86 RX12 yX12_isSign wsX12_isSign) := goodIn_app (goodIn_of _ (by decide +kernel)) ggX12_readSaid_X12_isSign
set_option maxRecDepth 20000 in
theorem ggX12_readSaid_X12_isWord : GoodIn wsX12_readSaid wsX12_isWord := goodIn_r _ [14, 9, 15, 16, 17, 7, 18, 19, 20, 21, 22, 23, 108, 109, 110, 111, 112, 113, 114, 115, 116, 117, 118, 119, 120, 121, 122, 123, 124, 125, 126, 127, 128, 129, 130, 131, 132, 133, 134, 135, 136, 137, 138, 139, 140, 141, 142, 143, 144, 145, 146, 147, 148, 149, 150, 151, 152, 153, 154, 155] (by decide +kernel) (by decide +kernel)
set_option maxRecDepth 20000 in
theorem gX12_readSaid_X12_isWord : GoodIn wsX12_readSaid (wsV RX12 197 RX12 yX12_isWord wsX12_isWord) := goodIn_app (goodIn_of _ (by decide +kernel)) ggX12_readSaid_X12_isWord
set_option maxRecDepth 20000 in
theorem ggX12_readSaid_X12_bad : GoodIn wsX12_readSaid wsX12_bad := goodIn_r _ [27, 9, 28, 29, 30, 108, 109, 110, 111, 112, 113, 114, 115, 116, 117, 118, 119, 120, 121, 122, 123, 124, 125, 126, 127, 128, 129, 130, 131, 132, 133, 134, 135, 136, 137, 138, 139, 140, 141, 142, 143, 144, 145, 146, 147, 148, 149, 150, 151, 152, 153, 154, 155] (by decide +kernel) (by decide +kernel)
set_option maxRecDepth 20000 in
theorem gX12_readSaid_X12_bad : GoodIn wsX12_readSaid (wsV RX12 72 RX12 yX12_bad wsX12_bad) := goodIn_app (goodIn_of _ (by decide +kernel)) ggX12_readSaid_X12_bad
set_option maxRecDepth 20000 in
theorem ggX12_readSaid_X12_go : GoodIn wsX12_readSaid wsX12_go := goodIn_r _ [34, 35, 36, 37, 29, 38, 9, 10, 15, 39, 22, 23, 40, 41, 7, 42, 43, 44, 45, 46, 47, 48, 49, 108, 109, 110, 111, 112, 113, 114, 115, 116, 117, 118, 119, 120, 121, 122, 123, 124, 125, 126, 127, 128, 129, 130, 131, 132, 133, 134, 135, 136, 137, 138, 139, 140, 141, 142, 143, 144, 145, 146, 147, 148, 149, 150, 151, 152, 153, 154, 155] (by decide +kernel) (by decide +kernel)
set_option maxRecDepth 20000 in
theorem gX12_readSaid_X12_go : GoodIn wsX12_readSaid (wsV RX12 82 RX12 yX12_go wsX12_go) := goodIn_app (goodIn_of _ (by decide +kernel)) ggX12_readSaid_X12_go
set_option maxRecDepth 20000 in
theorem ggX12_readSaid_X12_readBracket : GoodIn wsX12_readSaid wsX12_readBracket := goodIn_r _ [99, 100, 101, 102, 7, 4, 5, 6, 8, 9, 10, 24, 25, 26, 27, 28, 29, 30, 31, 32, 33, 34, 35, 36, 37, 38, 15, 39, 22, 23, 40, 41, 42, 43, 44, 45, 46, 47, 48, 49, 95, 3, 96, 97, 98, 11, 12, 13, 14, 16, 17, 18, 19, 20, 21, 56, 57, 58, 59, 60, 61, 103, 104, 105, 106, 107, 0, 1, 2, 50, 51, 52, 53, 54, 55, 62, 63, 64, 65, 66, 67, 68, 69, 70, 71, 72, 73, 74, 75, 76, 77, 78, 79, 80, 81, 82, 83, 84, 85, 86, 87, 88, 89, 90, 91, 92, 93, 94, 108, 109, 110, 111, 112, 113, 114, 115, 116, 117, 118, 119, 120, 121, 122, 123, 124, 125, 126, 127, 128, 129, 130, 131, 132, 133, 134, 135, 136, 137, 138, 139, 140, 141, 142, 143, 144, 145, 146, 147, 148, 149, 150, 151, 152, 153, 154, 155] (by decide +kernel) (by decide +kernel)
set_option maxRecDepth 20000 in
theorem gX12_readSaid_X12_readBracket : GoodIn wsX12_readSaid (wsV RX12 403 RX12 yX12_readBracket wsX12_readBracket) := goodIn_app (goodIn_of _ (by decide +kernel)) ggX12_readSaid_X12_readBracket
set_option maxRecDepth 20000 in
theorem ggX12_readSaid_X12_readNot : GoodIn wsX12_readSaid wsX12_readNot := goodIn_r _ [103, 3, 96, 97, 98, 7, 56, 57, 58, 59, 60, 61, 95, 11, 12, 13, 14, 9, 15, 16, 17, 18, 19, 20, 21, 22, 23, 31, 32, 33, 34, 35, 36, 37, 29, 38, 10, 39, 40, 41, 42, 43, 44, 45, 46, 47, 48, 49, 99, 100, 101, 102, 4, 5, 6, 8, 24, 25, 26, 27, 28, 30, 104, 105, 106, 107, 0, 1, 2, 50, 51, 52, 53, 54, 55, 62, 63, 64, 65, 66, 67, 68, 69, 70, 71, 72, 73, 74, 75, 76, 77, 78, 79, 80, 81, 82, 83, 84, 85, 86, 87, 88, 89, 90, 91, 92, 93, 94, 108, 109, 110, 111, 112, 113, 114, 115, 116, 117, 118, 119, 120, 121, 122, 123, 124, 125, 126, 127, 128, 129, 130, 131, 132, 133, 134, 135, 136, 137, 138, 139, 140, 141, 142, 143, 144, 145, 146, 147, 148, 149, 150, 151, 152, 153, 154, 155] (by decide +kernel) (by decide +kernel)
set_option maxRecDepth 20000 in
theorem gX12_readSaid_X12_readNot : GoodIn wsX12_readSaid (wsV RX12 406 RX12 yX12_readNot wsX12_readNot) := goodIn_app (goodIn_of _ (by decide +kernel)) ggX12_readSaid_X12_readNot
set_option maxRecDepth 20000 in
theorem ggX12_readSaid_X12_saysOne : GoodIn wsX12_readSaid wsX12_saysOne := goodIn_r _ [59, 60, 61, 108, 109, 110, 111, 112, 113, 114, 115, 116, 117, 118, 119, 120, 121, 122, 123, 124, 125, 126, 127, 128, 129, 130, 131, 132, 133, 134, 135, 136, 137, 138, 139, 140, 141, 142, 143, 144, 145, 146, 147, 148, 149, 150, 151, 152, 153, 154, 155] (by decide +kernel) (by decide +kernel)
set_option maxRecDepth 20000 in
theorem gX12_readSaid_X12_saysOne : GoodIn wsX12_readSaid (wsV RX12 390 RX12 yX12_saysOne wsX12_saysOne) := goodIn_app (goodIn_of _ (by decide +kernel)) ggX12_readSaid_X12_saysOne
set_option maxRecDepth 20000 in
theorem ggX12_readSaid_X12_readOf : GoodIn wsX12_readSaid wsX12_readOf := goodIn_r _ [65, 66, 3, 67, 68, 69, 7, 70, 71, 72, 73, 74, 75, 76, 15, 77, 78, 79, 80, 9, 16, 17, 18, 19, 20, 21, 22, 23, 24, 25, 26, 27, 28, 29, 30, 81, 82, 83, 31, 32, 33, 34, 35, 36, 37, 38, 10, 39, 40, 41, 42, 43, 44, 45, 46, 47, 48, 49, 56, 57, 58, 59, 60, 61, 108, 109, 110, 111, 112, 113, 114, 115, 116, 117, 118, 119, 120, 121, 122, 123, 124, 125, 126, 127, 128, 129, 130, 131, 132, 133, 134, 135, 136, 137, 138, 139, 140, 141, 142, 143, 144, 145, 146, 147, 148, 149, 150, 151, 152, 153, 154, 155] (by decide +kernel) (by decide +kernel)
set_option maxRecDepth 20000 in
theorem gX12_readSaid_X12_readOf : GoodIn wsX12_readSaid (wsV RX12 409 RX12 yX12_readOf wsX12_readOf) := goodIn_app (goodIn_of _ (by decide +kernel)) ggX12_readSaid_X12_readOf
set_option maxRecDepth 20000 in
theorem ggX12_readSaid_X12_readCompare : GoodIn wsX12_readSaid wsX12_readCompare := goodIn_r _ [87, 10, 66, 3, 4, 5, 6, 7, 8, 9, 24, 25, 26, 27, 28, 29, 30, 31, 32, 33, 34, 35, 36, 37, 38, 15, 39, 22, 23, 40, 41, 42, 43, 44, 45, 46, 47, 48, 49, 88, 89, 90, 91, 92, 93, 94, 56, 57, 58, 59, 60, 61, 108, 109, 110, 111, 112, 113, 114, 115, 116, 117, 118, 119, 120, 121, 122, 123, 124, 125, 126, 127, 128, 129, 130, 131, 132, 133, 134, 135, 136, 137, 138, 139, 140, 141, 142, 143, 144, 145, 146, 147, 148, 149, 150, 151, 152, 153, 154, 155] (by decide +kernel) (by decide +kernel)
set_option maxRecDepth 20000 in
theorem gX12_readSaid_X12_readCompare : GoodIn wsX12_readSaid (wsV RX12 412 RX12 yX12_readCompare wsX12_readCompare) := goodIn_app (goodIn_of _ (by decide +kernel)) ggX12_readSaid_X12_readCompare
set_option maxRecDepth 20000 in
theorem ggX12_readNot_X12_readSaid : GoodIn wsX12_readNot wsX12_readSaid := goodIn_r _ [66, 67, 68, 1, 52, 53, 54, 5, 55, 17, 36, 13, 14, 15, 16, 18, 19, 20, 21, 22, 23, 24, 25, 26, 56, 57, 58, 59, 60, 34, 61, 27, 28, 29, 30, 31, 32, 33, 35, 37, 38, 39, 40, 41, 42, 43, 44, 45, 46, 47, 69, 70, 71, 72, 73, 74, 6, 7, 8, 9, 10, 11, 75, 76, 77, 78, 79, 80, 81, 82, 83, 84, 85, 86, 87, 88, 89, 90, 91, 92, 93, 94, 95, 96, 97, 98, 99, 100, 101, 102, 103, 104, 105, 106, 107, 12, 2, 3, 4, 48, 49, 50, 51, 0, 62, 63, 64, 65, 108, 109, 110, 111, 112, 113, 114, 115, 116, 117, 118, 119, 120, 121, 122, 123, 124, 125, 126, 127, 128, 129, 130, 131, 132, 133, 134, 135, 136, 137, 138, 139, 140, 141, 142, 143, 144, 145, 146, 147, 148, 149, 150, 151, 152, 153, 154, 155] (by decide +kernel) (by decide +kernel)
set_option maxRecDepth 20000 in
theorem gX12_readNot_X12_readSaid : GoodIn wsX12_readNot (wsV RX12 394 RX12 yX12_readSaid wsX12_readSaid) := goodIn_app (goodIn_of _ (by decide +kernel)) ggX12_readNot_X12_readSaid
set_option maxRecDepth 20000 in
theorem ggX12_readNot_X12_saysOne : GoodIn wsX12_readNot wsX12_saysOne := goodIn_r _ [9, 10, 11, 108, 109, 110, 111, 112, 113, 114, 115, 116, 117, 118, 119, 120, 121, 122, 123, 124, 125, 126, 127, 128, 129, 130, 131, 132, 133, 134, 135, 136, 137, 138, 139, 140, 141, 142, 143, 144, 145, 146, 147, 148, 149, 150, 151, 152, 153, 154, 155] (by decide +kernel) (by decide +kernel)
set_option maxRecDepth 20000 in
theorem gX12_readNot_X12_saysOne : GoodIn wsX12_readNot (wsV RX12 390 RX12 yX12_saysOne wsX12_saysOne) := goodIn_app (goodIn_of _ (by decide +kernel)) ggX12_readNot_X12_saysOne
set_option maxRecDepth 20000 in
theorem ggX12_readBracket_X12_readOr : GoodIn wsX12_readBracket wsX12_readOr := goodIn_r _ [62, 41, 63, 64, 65, 4, 45, 46, 47, 48, 9, 26, 49, 50, 51, 52, 53, 54, 28, 29, 18, 19, 20, 21, 22, 23, 24, 16, 25, 10, 27, 30, 31, 32, 33, 34, 35, 36, 37, 38, 39, 55, 56, 57, 58, 59, 60, 40, 42, 43, 44, 0, 1, 2, 3, 5, 6, 7, 8, 11, 12, 13, 14, 15, 17, 61, 66, 67, 68, 69, 70, 71, 72, 73, 74, 75, 76, 77, 78, 79, 80, 81, 82, 83, 84, 85, 86, 87, 88, 89, 90, 91, 92, 93, 94, 95, 96, 97, 98, 99, 100, 101, 102, 103, 104, 105, 106, 107, 108, 109, 110, 111, 112, 113, 114, 115, 116, 117, 118, 119, 120, 121, 122, 123, 124, 125, 126, 127, 128, 129, 130, 131, 132, 133, 134, 135, 136, 137, 138, 139, 140, 141, 142, 143, 144, 145, 146, 147, 148, 149, 150, 151, 152, 153, 154, 155] (by decide +kernel) (by decide +kernel)
set_option maxRecDepth 20000 in
theorem gX12_readBracket_X12_readOr : GoodIn wsX12_readBracket (wsV RX12 415 RX12 yX12_readOr wsX12_readOr) := goodIn_app (goodIn_of _ (by decide +kernel)) ggX12_readBracket_X12_readOr
set_option maxRecDepth 20000 in
theorem ggX12_readBracket_X12_isSign : GoodIn wsX12_readBracket wsX12_isSign := goodIn_r _ [8, 9, 10, 108, 109, 110, 111, 112, 113, 114, 115, 116, 117, 118, 119, 120, 121, 122, 123, 124, 125, 126, 127, 128, 129, 130, 131, 132, 133, 134, 135, 136, 137, 138, 139, 140, 141, 142, 143, 144, 145, 146, 147, 148, 149, 150, 151, 152, 153, 154, 155] (by decide +kernel) (by decide +kernel)
set_option maxRecDepth 20000 in
theorem gX12_readBracket_X12_isSign : GoodIn wsX12_readBracket (wsV RX12 86 RX12 yX12_isSign wsX12_isSign) := goodIn_app (goodIn_of _ (by decide +kernel)) ggX12_readBracket_X12_isSign
set_option maxRecDepth 20000 in
theorem ggX12_readBracket_X12_bad : GoodIn wsX12_readBracket wsX12_bad := goodIn_r _ [14, 9, 15, 16, 17, 108, 109, 110, 111, 112, 113, 114, 115, 116, 117, 118, 119, 120, 121, 122, 123, 124, 125, 126, 127, 128, 129, 130, 131, 132, 133, 134, 135, 136, 137, 138, 139, 140, 141, 142, 143, 144, 145, 146, 147, 148, 149, 150, 151, 152, 153, 154, 155] (by decide +kernel) (by decide +kernel)
set_option maxRecDepth 20000 in
theorem gX12_readBracket_X12_bad : GoodIn wsX12_readBracket (wsV RX12 72 RX12 yX12_bad wsX12_bad) := goodIn_app (goodIn_of _ (by decide +kernel)) ggX12_readBracket_X12_bad
set_option maxRecDepth 20000 in
theorem ggX12_readBracket_X12_go : GoodIn wsX12_readBracket wsX12_go := goodIn_r _ [21, 22, 23, 24, 16, 25, 9, 10, 26, 27, 28, 29, 30, 31, 4, 32, 33, 34, 35, 36, 37, 38, 39, 108, 109, 110, 111, 112, 113, 114, 115, 116, 117, 118, 119, 120, 121, 122, 123, 124, 125, 126, 127, 128, 129, 130, 131, 132, 133, 134, 135, 136, 137, 138, 139, 140, 141, 142, 143, 144, 145, 146, 147, 148, 149, 150, 151, 152, 153, 154, 155] (by decide +kernel) (by decide +kernel)
set_option maxRecDepth 20000 in
theorem gX12_readBracket_X12_go : GoodIn wsX12_readBracket (wsV RX12 82 RX12 yX12_go wsX12_go) := goodIn_app (goodIn_of _ (by decide +kernel)) ggX12_readBracket_X12_go
set_option maxRecDepth 20000 in
theorem ggX12_readOf_X12_readRing : GoodIn wsX12_readOf wsX12_readRing := goodIn_r _ [7, 8, 1, 9, 10, 11, 6, 12, 13, 14, 15, 16, 17, 18, 19, 20, 21, 22, 23, 24, 25, 26, 27, 28, 29, 30, 31, 32, 33, 34, 35, 36, 37, 38, 39, 40, 41, 42, 43, 44, 45, 46, 47, 48, 49, 50, 51, 52, 53, 54, 55, 56, 57, 64, 65, 66, 67, 68, 69, 70, 71, 72, 73, 74, 75, 76, 77, 78, 79, 80, 81, 82, 83, 84, 85, 86, 87, 88, 89, 90, 91, 92, 93, 94, 95, 96, 97, 98, 99, 100, 101, 102, 103, 104, 105, 106, 107, 108, 109, 110, 111] (by decide +kernel) (by decide +kernel)
set_option maxRecDepth 20000 in
theorem gX12_readOf_X12_readRing : GoodIn wsX12_readOf (wsV RX12 418 RX12 yX12_readRing wsX12_readRing) := goodIn_app (goodIn_of _ (by decide +kernel)) ggX12_readOf_X12_readRing
set_option maxRecDepth 20000 in
theorem ggX12_readOf_X12_saysOne : GoodIn wsX12_readOf wsX12_saysOne := goodIn_r _ [61, 62, 63, 64, 65, 66, 67, 68, 69, 70, 71, 72, 73, 74, 75, 76, 77, 78, 79, 80, 81, 82, 83, 84, 85, 86, 87, 88, 89, 90, 91, 92, 93, 94, 95, 96, 97, 98, 99, 100, 101, 102, 103, 104, 105, 106, 107, 108, 109, 110, 111] (by decide +kernel) (by decide +kernel)
set_option maxRecDepth 20000 in
theorem gX12_readOf_X12_saysOne : GoodIn wsX12_readOf (wsV RX12 390 RX12 yX12_saysOne wsX12_saysOne) := goodIn_app (goodIn_of _ (by decide +kernel)) ggX12_readOf_X12_saysOne
set_option maxRecDepth 20000 in
theorem ggX12_readCompare_X12_isSign : GoodIn wsX12_readCompare wsX12_isSign := goodIn_r _ [8, 9, 1, 52, 53, 54, 55, 56, 57, 58, 59, 60, 61, 62, 63, 64, 65, 66, 67, 68, 69, 70, 71, 72, 73, 74, 75, 76, 77, 78, 79, 80, 81, 82, 83, 84, 85, 86, 87, 88, 89, 90, 91, 92, 93, 94, 95, 96, 97, 98, 99] (by decide +kernel) (by decide +kernel)
set_option maxRecDepth 20000 in
theorem gX12_readCompare_X12_isSign : GoodIn wsX12_readCompare (wsV RX12 86 RX12 yX12_isSign wsX12_isSign) := goodIn_app (goodIn_of _ (by decide +kernel)) ggX12_readCompare_X12_isSign
set_option maxRecDepth 20000 in
theorem ggX12_readCompare_X12_bad : GoodIn wsX12_readCompare wsX12_bad := goodIn_r _ [13, 9, 14, 15, 16, 52, 53, 54, 55, 56, 57, 58, 59, 60, 61, 62, 63, 64, 65, 66, 67, 68, 69, 70, 71, 72, 73, 74, 75, 76, 77, 78, 79, 80, 81, 82, 83, 84, 85, 86, 87, 88, 89, 90, 91, 92, 93, 94, 95, 96, 97, 98, 99] (by decide +kernel) (by decide +kernel)
set_option maxRecDepth 20000 in
theorem gX12_readCompare_X12_bad : GoodIn wsX12_readCompare (wsV RX12 72 RX12 yX12_bad wsX12_bad) := goodIn_app (goodIn_of _ (by decide +kernel)) ggX12_readCompare_X12_bad
set_option maxRecDepth 20000 in
theorem ggX12_readCompare_X12_go : GoodIn wsX12_readCompare wsX12_go := goodIn_r _ [20, 21, 22, 23, 15, 24, 9, 1, 25, 26, 27, 28, 29, 30, 7, 31, 32, 33, 34, 35, 36, 37, 38, 52, 53, 54, 55, 56, 57, 58, 59, 60, 61, 62, 63, 64, 65, 66, 67, 68, 69, 70, 71, 72, 73, 74, 75, 76, 77, 78, 79, 80, 81, 82, 83, 84, 85, 86, 87, 88, 89, 90, 91, 92, 93, 94, 95, 96, 97, 98, 99] (by decide +kernel) (by decide +kernel)
set_option maxRecDepth 20000 in
theorem gX12_readCompare_X12_go : GoodIn wsX12_readCompare (wsV RX12 82 RX12 yX12_go wsX12_go) := goodIn_app (goodIn_of _ (by decide +kernel)) ggX12_readCompare_X12_go
set_option maxRecDepth 20000 in
theorem ggX12_readCompare_X12_readNumber : GoodIn wsX12_readCompare wsX12_readNumber := goodIn_r _ [42, 9, 26, 2, 10, 11, 12, 7, 13, 14, 15, 16, 43, 44, 45, 17, 18, 19, 20, 21, 22, 23, 24, 1, 25, 27, 28, 29, 30, 31, 32, 33, 34, 35, 36, 37, 38, 52, 53, 54, 55, 56, 57, 58, 59, 60, 61, 62, 63, 64, 65, 66, 67, 68, 69, 70, 71, 72, 73, 74, 75, 76, 77, 78, 79, 80, 81, 82, 83, 84, 85, 86, 87, 88, 89, 90, 91, 92, 93, 94, 95, 96, 97, 98, 99] (by decide +kernel) (by decide +kernel)
set_option maxRecDepth 20000 in
theorem gX12_readCompare_X12_readNumber : GoodIn wsX12_readCompare (wsV RX12 190 RX12 yX12_readNumber wsX12_readNumber) := goodIn_app (goodIn_of _ (by decide +kernel)) ggX12_readCompare_X12_readNumber
set_option maxRecDepth 20000 in
theorem ggX12_readCompare_X12_saysOne : GoodIn wsX12_readCompare wsX12_saysOne := goodIn_r _ [49, 50, 51, 52, 53, 54, 55, 56, 57, 58, 59, 60, 61, 62, 63, 64, 65, 66, 67, 68, 69, 70, 71, 72, 73, 74, 75, 76, 77, 78, 79, 80, 81, 82, 83, 84, 85, 86, 87, 88, 89, 90, 91, 92, 93, 94, 95, 96, 97, 98, 99] (by decide +kernel) (by decide +kernel)
set_option maxRecDepth 20000 in
theorem gX12_readCompare_X12_saysOne : GoodIn wsX12_readCompare (wsV RX12 390 RX12 yX12_saysOne wsX12_saysOne) := goodIn_app (goodIn_of _ (by decide +kernel)) ggX12_readCompare_X12_saysOne
set_option maxRecDepth 20000 in
theorem ggX12_sentence_X12_begin : GoodIn wsX12_sentence wsX12_begin := goodIn_r _ [13, 14, 15, 16, 17, 18, 19, 20, 21, 12, 22, 23, 24, 25, 26, 27, 28, 29, 5, 30, 31, 32, 33, 34, 35, 36, 37, 38, 39, 40, 41, 42, 43, 44, 119, 120, 121, 122, 123, 124, 125, 126, 127, 128, 129, 130, 131, 132, 133, 134, 135, 136, 137, 138, 139, 140, 141, 142, 143, 144, 145, 146, 147, 148, 149, 150, 151, 152, 153, 154, 155, 156, 157, 158, 159, 160, 161, 162, 163, 164, 165, 166] (by decide +kernel) (by decide +kernel)
set_option maxRecDepth 20000 in
theorem gX12_sentence_X12_begin : GoodIn wsX12_sentence (wsV RX12 218 RX12 yX12_begin wsX12_begin) := goodIn_app (goodIn_of _ (by decide +kernel)) ggX12_sentence_X12_begin
set_option maxRecDepth 20000 in
theorem ggX12_sentence_X12_readOr : GoodIn wsX12_sentence wsX12_readOr := goodIn_r _ [48, 7, 49, 50, 51, 12, 52, 53, 54, 55, 5, 31, 56, 57, 58, 59, 60, 61, 33, 34, 24, 25, 26, 27, 18, 15, 28, 29, 16, 30, 32, 35, 36, 37, 38, 39, 40, 41, 42, 43, 44, 62, 63, 64, 65, 1, 8, 66, 67, 68, 69, 70, 45, 46, 47, 71, 72, 73, 74, 75, 76, 77, 78, 17, 4, 79, 80, 2, 3, 81, 82, 83, 84, 85, 86, 87, 88, 89, 90, 91, 92, 93, 94, 95, 6, 96, 97, 98, 99, 100, 101, 102, 103, 104, 105, 106, 107, 108, 109, 110, 111, 112, 113, 114, 115, 116, 117, 118, 119, 120, 121, 122, 123, 124, 125, 126, 127, 128, 129, 130, 131, 132, 133, 134, 135, 136, 137, 138, 139, 140, 141, 142, 143, 144, 145, 146, 147, 148, 149, 150, 151, 152, 153, 154, 155, 156, 157, 158, 159, 160, 161, 162, 163, 164, 165, 166] (by decide +kernel) (by decide +kernel)
set_option maxRecDepth 20000 in
theorem gX12_sentence_X12_readOr : GoodIn wsX12_sentence (wsV RX12 415 RX12 yX12_readOr wsX12_readOr) := goodIn_app (goodIn_of _ (by decide +kernel)) ggX12_sentence_X12_readOr
set_option maxRecDepth 20000 in
theorem ggX12_sentence_X12_bad : GoodIn wsX12_sentence wsX12_bad := goodIn_r _ [78, 5, 17, 29, 4, 119, 120, 121, 122, 123, 124, 125, 126, 127, 128, 129, 130, 131, 132, 133, 134, 135, 136, 137, 138, 139, 140, 141, 142, 143, 144, 145, 146, 147, 148, 149, 150, 151, 152, 153, 154, 155, 156, 157, 158, 159, 160, 161, 162, 163, 164, 165, 166] (by decide +kernel) (by decide +kernel)
set_option maxRecDepth 20000 in
theorem gX12_sentence_X12_bad : GoodIn wsX12_sentence (wsV RX12 72 RX12 yX12_bad wsX12_bad) := goodIn_app (goodIn_of _ (by decide +kernel)) ggX12_sentence_X12_bad
set_option maxRecDepth 20000 in
theorem ggX12_holds_X12_holds : GoodIn wsX12_holds wsX12_holds := goodIn_r _ [0, 1, 2, 3, 4, 5, 6, 7, 8, 9, 10, 11, 12, 13, 14, 15, 16, 17, 18, 19, 20, 21, 22, 23, 24, 25, 26, 27, 28, 29, 30, 31, 32, 33, 34, 35, 36, 37, 38, 39, 40, 41, 42, 43, 44, 45, 46, 47, 48, 49, 50, 51, 52, 53, 54, 55, 56, 57, 58, 59, 60, 61, 62, 63, 64, 65, 66, 67, 68, 69, 70, 71, 72, 73, 74, 75, 76, 77, 78] (by decide +kernel) (by decide +kernel)
set_option maxRecDepth 20000 in
theorem gX12_holds_X12_holds : GoodIn wsX12_holds (wsV RX12 421 RX12 yX12_holds wsX12_holds) := goodIn_app (goodIn_of _ (by decide +kernel)) ggX12_holds_X12_holds
set_option maxRecDepth 20000 in
theorem ggX12_holds_X12_has : GoodIn wsX12_holds wsX12_has := goodIn_r _ [8] (by decide +kernel) (by decide +kernel)
set_option maxRecDepth 20000 in
theorem gX12_holds_X12_has : GoodIn wsX12_holds (va_wsS RX12 240 yX12_has wsX12_has) := goodIn_app (goodIn_of _ (by decide +kernel)) ggX12_holds_X12_has
set_option maxRecDepth 20000 in
theorem ggX12_holds_X12_areOneRing : GoodIn wsX12_holds wsX12_areOneRing := goodIn_r _ [12, 13, 14, 15, 5, 16, 17, 18, 19, 20, 21, 22, 1, 23, 24, 25, 26, 6, 7, 8, 27, 28, 29, 30, 31, 32, 33, 34, 35, 36, 37, 38, 39, 40, 41, 42, 43, 44, 45, 46, 47, 48, 49, 50, 51, 52, 53, 54, 55, 56, 57, 58, 59, 60, 61, 62, 63, 64, 65, 66, 67, 68, 69, 70, 71, 72, 73, 74, 75, 76, 77, 78] (by decide +kernel) (by decide +kernel)
set_option maxRecDepth 20000 in
theorem gX12_holds_X12_areOneRing : GoodIn wsX12_holds (wsV RX12 424 RX12 yX12_areOneRing wsX12_areOneRing) := goodIn_app (goodIn_of _ (by decide +kernel)) ggX12_holds_X12_areOneRing
set_option maxRecDepth 20000 in
theorem ggX12_said_X12_holds : GoodIn wsX12_said wsX12_holds := goodIn_r _ [7, 2, 3, 4, 5, 6, 8, 9, 10, 11, 12, 13, 14, 15, 16, 17, 18, 19, 20, 21, 22, 23, 24, 25, 26, 27, 28, 29, 30, 31, 32, 33, 34, 35, 36, 37, 38, 39, 40, 41, 42, 43, 44, 45, 46, 47, 48, 49, 50, 51, 52, 53, 54, 55, 56, 57, 58, 59, 60, 61, 62, 63, 64, 65, 66, 67, 68, 69, 70, 71, 72, 73, 74, 75, 76, 77, 78, 79, 80] (by decide +kernel) (by decide +kernel)
set_option maxRecDepth 20000 in
theorem gX12_said_X12_holds : GoodIn wsX12_said (wsV RX12 421 RX12 yX12_holds wsX12_holds) := goodIn_app (goodIn_of _ (by decide +kernel)) ggX12_said_X12_holds
set_option maxRecDepth 20000 in
theorem ggX12_image_X12_isIn : GoodIn wsX12_image wsX12_isIn := goodIn_r _ [10] (by decide +kernel) (by decide +kernel)
set_option maxRecDepth 20000 in
theorem gX12_image_X12_isIn : GoodIn wsX12_image (va_wsS RX12 75 yX12_isIn wsX12_isIn) := goodIn_app (goodIn_of _ (by decide +kernel)) ggX12_image_X12_isIn
set_option maxRecDepth 20000 in
theorem ggX12_restore_X12_isIn : GoodIn wsX12_restore wsX12_isIn := goodIn_r _ [11] (by decide +kernel) (by decide +kernel)
set_option maxRecDepth 20000 in
theorem gX12_restore_X12_isIn : GoodIn wsX12_restore (va_wsS RX12 75 yX12_isIn wsX12_isIn) := goodIn_app (goodIn_of _ (by decide +kernel)) ggX12_restore_X12_isIn
set_option maxRecDepth 20000 in
theorem ggJ0_length_8abf5_J0_coder_7d493 : GoodIn wsJ0_length_8abf5 wsJ0_coder_7d493 := goodIn_r _ [6, 7, 8] (by decide +kernel) (by decide +kernel)
set_option maxRecDepth 20000 in
theorem gJ0_length_8abf5_J0_coder_7d493 : GoodIn wsJ0_length_8abf5 (wsV RJ0 335 RJ0 yJ0_coder_7d493 wsJ0_coder_7d493) := goodIn_app (goodIn_of _ (by decide +kernel)) ggJ0_length_8abf5_J0_coder_7d493
set_option maxRecDepth 20000 in
theorem ggJ0_charAt_5068e_J0_isLatin1_aae02 : GoodIn wsJ0_charAt_5068e wsJ0_isLatin1_aae02 := goodIn_r _ [6, 7, 8] (by decide +kernel) (by decide +kernel)
set_option maxRecDepth 20000 in
theorem gJ0_charAt_5068e_J0_isLatin1_aae02 : GoodIn wsJ0_charAt_5068e (wsV RJ0 492 RJ0 yJ0_isLatin1_aae02 wsJ0_isLatin1_aae02) := goodIn_app (goodIn_of _ (by decide +kernel)) ggJ0_charAt_5068e_J0_isLatin1_aae02
set_option maxRecDepth 20000 in
theorem ggJ0_charAt_5068e_J1_charAt_3b067 : GoodIn wsJ0_charAt_5068e wsJ1_charAt_3b067 := goodIn_r _ [12, 13, 14, 5, 15, 16, 17, 18, 19, 20] (by decide +kernel) (by decide +kernel)
set_option maxRecDepth 20000 in
theorem gJ0_charAt_5068e_J1_charAt_3b067 : GoodIn wsJ0_charAt_5068e (va_wsS RJ0 495 yJ1_charAt_3b067 wsJ1_charAt_3b067) := goodIn_app (goodIn_of _ (by decide +kernel)) ggJ0_charAt_5068e_J1_charAt_3b067
set_option maxRecDepth 20000 in
theorem ggJ0_charAt_5068e_J2_charAt_3b067 : GoodIn wsJ0_charAt_5068e wsJ2_charAt_3b067 := goodIn_r _ [24, 25, 26, 23, 27, 28, 29, 30, 31, 14, 5, 15, 16, 17, 18, 19, 20, 32, 33, 34, 35, 36, 37] (by decide +kernel) (by decide +kernel)
set_option maxRecDepth 20000 in
theorem gJ0_charAt_5068e_J2_charAt_3b067 : GoodIn wsJ0_charAt_5068e (va_wsS RJ0 498 yJ2_charAt_3b067 wsJ2_charAt_3b067) := goodIn_app (goodIn_of _ (by decide +kernel)) ggJ0_charAt_5068e_J2_charAt_3b067
set_option maxRecDepth 20000 in
theorem ggJ0_checkIndex_df160_J3_checkIndex_8e157 : GoodIn wsJ0_checkIndex_df160 wsJ3_checkIndex_8e157 := goodIn_r _ [5] (by decide +kernel) (by decide +kernel)
set_option maxRecDepth 20000 in
theorem gJ0_checkIndex_df160_J3_checkIndex_8e157 : GoodIn wsJ0_checkIndex_df160 (va_wsS RJ0 1059 yJ3_checkIndex_8e157 wsJ3_checkIndex_8e157) := goodIn_app (goodIn_of _ (by decide +kernel)) ggJ0_checkIndex_df160_J3_checkIndex_8e157
set_option maxRecDepth 20000 in
theorem ggJ1_charAt_3b067_J0_checkIndex_df160 : GoodIn wsJ1_charAt_3b067 wsJ0_checkIndex_df160 := goodIn_r _ [4, 5, 6, 7, 8, 9] (by decide +kernel) (by decide +kernel)
set_option maxRecDepth 20000 in
theorem gJ1_charAt_3b067_J0_checkIndex_df160 : GoodIn wsJ1_charAt_3b067 (va_wsS RJ1 9 yJ0_checkIndex_df160 wsJ0_checkIndex_df160) := goodIn_app (goodIn_of _ (by decide +kernel)) ggJ1_charAt_3b067_J0_checkIndex_df160
set_option maxRecDepth 20000 in
theorem ggJ2_getChar_3b067_J2_length_9d52b : GoodIn wsJ2_getChar_3b067 wsJ2_length_9d52b := goodIn_r _ [7] (by decide +kernel) (by decide +kernel)
set_option maxRecDepth 20000 in
theorem gJ2_getChar_3b067_J2_length_9d52b : GoodIn wsJ2_getChar_3b067 (va_wsS RJ2 48 yJ2_length_9d52b wsJ2_length_9d52b) := goodIn_app (goodIn_of _ (by decide +kernel)) ggJ2_getChar_3b067_J2_length_9d52b
set_option maxRecDepth 20000 in
theorem ggJ2_charAt_3b067_J2_checkIndex_2214a : GoodIn wsJ2_charAt_3b067 wsJ2_checkIndex_2214a := goodIn_r _ [4, 5, 6, 3, 7, 8, 9, 10, 11, 12, 13, 14, 15, 16] (by decide +kernel) (by decide +kernel)
set_option maxRecDepth 20000 in
theorem gJ2_charAt_3b067_J2_checkIndex_2214a : GoodIn wsJ2_charAt_3b067 (va_wsS RJ2 67 yJ2_checkIndex_2214a wsJ2_checkIndex_2214a) := goodIn_app (goodIn_of _ (by decide +kernel)) ggJ2_charAt_3b067_J2_checkIndex_2214a
set_option maxRecDepth 20000 in
theorem ggJ2_charAt_3b067_J2_getChar_3b067 : GoodIn wsJ2_charAt_3b067 wsJ2_getChar_3b067 := goodIn_r _ [19, 20, 21, 22, 5, 6, 3, 7] (by decide +kernel) (by decide +kernel)
set_option maxRecDepth 20000 in
theorem gJ2_charAt_3b067_J2_getChar_3b067 : GoodIn wsJ2_charAt_3b067 (va_wsS RJ2 71 yJ2_getChar_3b067 wsJ2_getChar_3b067) := goodIn_app (goodIn_of _ (by decide +kernel)) ggJ2_charAt_3b067_J2_getChar_3b067
set_option maxRecDepth 20000 in
theorem ggJ2_checkIndex_2214a_J2_length_9d52b : GoodIn wsJ2_checkIndex_2214a wsJ2_length_9d52b := goodIn_r _ [4] (by decide +kernel) (by decide +kernel)
set_option maxRecDepth 20000 in
theorem gJ2_checkIndex_2214a_J2_length_9d52b : GoodIn wsJ2_checkIndex_2214a (va_wsS RJ2 48 yJ2_length_9d52b wsJ2_length_9d52b) := goodIn_app (goodIn_of _ (by decide +kernel)) ggJ2_checkIndex_2214a_J2_length_9d52b
set_option maxRecDepth 20000 in
theorem ggJ2_checkIndex_2214a_J0_checkIndex_df160 : GoodIn wsJ2_checkIndex_2214a wsJ0_checkIndex_df160 := goodIn_r _ [8, 9, 10, 11, 12, 13] (by decide +kernel) (by decide +kernel)
set_option maxRecDepth 20000 in
theorem gJ2_checkIndex_2214a_J0_checkIndex_df160 : GoodIn wsJ2_checkIndex_2214a (va_wsS RJ2 414 yJ0_checkIndex_df160 wsJ0_checkIndex_df160) := goodIn_app (goodIn_of _ (by decide +kernel)) ggJ2_checkIndex_2214a_J0_checkIndex_df160
set_option maxRecDepth 20000 in
theorem ggL_juror_X11_juror : GoodIn wsL_juror wsX11_juror := goodIn_ca (goodIn_r _ [6, 7, 8, 9, 10, 11, 12, 13, 14, 15, 16, 17, 18, 19, 20, 5, 21, 22, 23, 24, 25, 26, 27, 28, 29, 30, 31, 32, 33, 34, 35, 36, 37, 38, 39, 40, 41, 42, 43, 44, 45, 46, 47, 48, 49, 50, 51, 52, 53, 54, 55, 56, 57, 58, 59, 60, 61, 62, 63, 64] (by decide +kernel) (by decide +kernel)) (goodIn_sub (fun _ h => List.mem_cons_of_mem _ (List.mem_append_right _ h)) (by decide +kernel))
set_option maxRecDepth 20000 in
theorem gL_juror_X11_juror : GoodIn wsL_juror (wsV RL 7 RX11 yX11_juror wsX11_juror) := goodIn_app (goodIn_of _ (by decide +kernel)) ggL_juror_X11_juror
set_option maxRecDepth 20000 in
theorem ggL_trial_X11_trial : GoodIn wsL_trial wsX11_trial := goodIn_ca (goodIn_r _ [6, 7, 8, 9, 10, 11, 12, 13, 14, 15, 16, 17, 18, 5, 19, 20, 21, 22, 23, 24, 25, 26, 27, 28, 29, 30, 31, 32, 33, 34, 35, 36, 37, 38, 39, 40, 41, 42, 43, 44, 45, 46, 47, 48, 49, 50, 51, 52, 53, 54, 55, 56, 57, 58, 59, 60, 61, 62] (by decide +kernel) (by decide +kernel)) (goodIn_sub (fun _ h => List.mem_cons_of_mem _ (List.mem_append_right _ h)) (by decide +kernel))
set_option maxRecDepth 20000 in
theorem gL_trial_X11_trial : GoodIn wsL_trial (wsV RL 15 RX11 yX11_trial wsX11_trial) := goodIn_app (goodIn_of _ (by decide +kernel)) ggL_trial_X11_trial
set_option maxRecDepth 20000 in
theorem ggL_likely_X11_likely : GoodIn wsL_likely wsX11_likely := goodIn_ca (goodIn_r _ [6, 7, 8, 9, 10, 11, 12, 13, 14, 15, 16, 17, 5, 18, 19, 20, 21, 22, 23, 24, 25, 26, 27, 28, 29, 30, 31, 32, 33, 34, 35, 36, 37, 38, 39, 40, 41, 42, 43, 44, 45, 46, 47, 48, 49, 50, 51, 52, 53, 54, 55, 56, 57, 58, 59, 60, 61, 62, 63, 64, 65, 66, 67, 68, 69, 70, 71, 72, 73, 74, 75, 76, 77, 78, 79, 80, 81, 82, 83, 84, 85, 86, 87, 88, 89, 90, 91, 92, 93, 94, 95, 96, 97, 98, 99, 100, 101, 102, 103, 104, 105, 106, 107, 108, 109, 110, 111, 112, 113, 114, 115, 116, 117, 118, 119, 120, 121, 122, 123, 124, 125, 126, 127, 128, 129, 130, 131, 132] (by decide +kernel) (by decide +kernel)) (goodIn_sub (fun _ h => List.mem_cons_of_mem _ (List.mem_append_right _ h)) (by decide +kernel))
set_option maxRecDepth 20000 in
theorem gL_likely_X11_likely : GoodIn wsL_likely (wsV RL 18 RX11 yX11_likely wsX11_likely) := goodIn_app (goodIn_of _ (by decide +kernel)) ggL_likely_X11_likely
set_option maxRecDepth 20000 in
theorem ggL_panel_X11_panel : GoodIn wsL_panel wsX11_panel := goodIn_ca (goodIn_r _ [6, 7, 8, 9, 10, 11, 12, 13, 14, 15, 16, 17, 18, 5, 19, 20, 21, 22, 23, 24, 25, 26, 27, 28, 29, 30, 31, 32, 33, 34, 35, 36, 37, 38, 39, 40, 41, 42, 43, 44, 45, 46, 47, 48, 49, 50, 51, 52, 53, 54, 55, 56, 57, 58, 59, 60, 61, 62, 63, 64, 65, 66, 67, 68, 69, 70, 71, 72, 73, 74, 75, 76, 77, 78, 79, 80, 81, 82, 83, 84, 85, 86, 87, 88, 89, 90, 91, 92, 93, 94, 95, 96, 97, 98, 99, 100, 101, 102, 103, 104, 105, 106, 107, 108, 109, 110, 111, 112, 113, 114, 115, 116, 117, 118, 119, 120, 121, 122, 123, 124, 125, 126, 127, 128, 129, 130, 131, 132, 133, 134, 135, 136, 137, 138, 139] (by decide +kernel) (by decide +kernel)) (goodIn_sub (fun _ h => List.mem_cons_of_mem _ (List.mem_append_right _ h)) (by decide +kernel))
set_option maxRecDepth 20000 in
theorem gL_panel_X11_panel : GoodIn wsL_panel (wsV RL 22 RX11 yX11_panel wsX11_panel) := goodIn_app (goodIn_of _ (by decide +kernel)) ggL_panel_X11_panel
