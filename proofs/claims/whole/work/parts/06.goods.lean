set_option maxRecDepth 20000 in
theorem ggX0_remember_X0_loseOldest : GoodIn wsX0_remember wsX0_loseOldest := goodIn_r _ [10, 2, 4, 1, 11, 12, 13, 14, 15, 16, 17] (by decide +kernel) (by decide +kernel)
set_option maxRecDepth 20000 in
theorem gX0_remember_X0_loseOldest : GoodIn wsX0_remember (wsV RX0 48 RX0 yX0_loseOldest wsX0_loseOldest) := goodIn_app (goodIn_of _ (by decide +kernel)) ggX0_remember_X0_loseOldest
set_option maxRecDepth 20000 in
theorem ggX1_explore_X1_add : GoodIn wsX1_explore wsX1_add := goodIn_r _ [7, 2, 1, 8, 9, 10, 11, 45, 46, 47, 48, 49, 50] (by decide +kernel) (by decide +kernel)
set_option maxRecDepth 20000 in
theorem gX1_explore_X1_add : GoodIn wsX1_explore (wsV RX1 34 RX1 yX1_add wsX1_add) := goodIn_app (goodIn_of _ (by decide +kernel)) ggX1_explore_X1_add
set_option maxRecDepth 20000 in
theorem ggX1_explore_X1_goOn : GoodIn wsX1_explore wsX1_goOn := goodIn_r _ [15, 8, 11, 16, 17, 18, 19, 20, 21, 22, 23, 24, 25, 26, 27, 28, 29, 30, 31, 32, 33, 34, 35, 36, 37, 38, 39, 40, 41, 3, 4, 5, 6, 7, 2, 1, 9, 10, 42, 43, 44, 45, 46, 47, 48, 49, 50, 51, 52, 53, 54, 55, 56, 57, 58, 59, 60, 61, 62, 63, 64, 65] (by decide +kernel) (by decide +kernel)
set_option maxRecDepth 20000 in
theorem gX1_explore_X1_goOn : GoodIn wsX1_explore (wsV RX1 38 RX1 yX1_goOn wsX1_goOn) := goodIn_app (goodIn_of _ (by decide +kernel)) ggX1_explore_X1_goOn
set_option maxRecDepth 20000 in
theorem ggX1_goOn_X3_atFerry : GoodIn wsX1_goOn wsX3_atFerry := goodIn_r _ [7, 8, 9, 10, 6, 11, 47, 48, 49, 50, 51, 52, 53, 54, 55, 56, 57, 58, 59, 60, 61] (by decide +kernel) (by decide +kernel)
set_option maxRecDepth 20000 in
theorem gX1_goOn_X3_atFerry : GoodIn wsX1_goOn (wsV RX1 42 RX3 yX3_atFerry wsX3_atFerry) := goodIn_app (goodIn_of _ (by decide +kernel)) ggX1_goOn_X3_atFerry
set_option maxRecDepth 20000 in
theorem ggX1_goOn_X3_setsOf : GoodIn wsX1_goOn wsX3_setsOf := goodIn_r _ [14, 15, 16, 17, 18, 19, 20, 21] (by decide +kernel) (by decide +kernel)
set_option maxRecDepth 20000 in
theorem gX1_goOn_X3_setsOf : GoodIn wsX1_goOn (va_wsS RX1 46 yX3_setsOf wsX3_setsOf) := goodIn_app (goodIn_of _ (by decide +kernel)) ggX1_goOn_X3_setsOf
set_option maxRecDepth 20000 in
theorem ggX1_goOn_X3_crossing : GoodIn wsX1_goOn wsX3_crossing := goodIn_r _ [25, 26, 27, 28, 4, 5, 6, 7, 8, 9, 10, 11, 47, 48, 49, 50, 51, 52, 53, 54, 55, 56, 57, 58, 59, 60, 61] (by decide +kernel) (by decide +kernel)
set_option maxRecDepth 20000 in
theorem gX1_goOn_X3_crossing : GoodIn wsX1_goOn (wsV RX1 49 RX3 yX3_crossing wsX3_crossing) := goodIn_app (goodIn_of _ (by decide +kernel)) ggX1_goOn_X3_crossing
set_option maxRecDepth 20000 in
theorem ggX1_goOn_X1_add : GoodIn wsX1_goOn wsX1_add := goodIn_r _ [33, 34, 35, 1, 36, 37, 2, 41, 42, 43, 44, 45, 46] (by decide +kernel) (by decide +kernel)
set_option maxRecDepth 20000 in
theorem gX1_goOn_X1_add : GoodIn wsX1_goOn (wsV RX1 34 RX1 yX1_add wsX1_add) := goodIn_app (goodIn_of _ (by decide +kernel)) ggX1_goOn_X1_add
set_option maxRecDepth 20000 in
theorem ggX1_goOn_X3_nextSet : GoodIn wsX1_goOn wsX3_nextSet := goodIn_r _ [40] (by decide +kernel) (by decide +kernel)
set_option maxRecDepth 20000 in
theorem gX1_goOn_X3_nextSet : GoodIn wsX1_goOn (va_wsS RX1 53 yX3_nextSet wsX3_nextSet) := goodIn_app (goodIn_of _ (by decide +kernel)) ggX1_goOn_X3_nextSet
set_option maxRecDepth 20000 in
theorem ggX1_firstDone_X3_wrongOf : GoodIn wsX1_firstDone wsX3_wrongOf := goodIn_r _ [7, 8, 9, 16, 17, 18, 19, 20, 21, 22, 23, 24, 25, 26, 27, 28, 29, 30] (by decide +kernel) (by decide +kernel)
set_option maxRecDepth 20000 in
theorem gX1_firstDone_X3_wrongOf : GoodIn wsX1_firstDone (wsV RX1 57 RX3 yX3_wrongOf wsX3_wrongOf) := goodIn_app (goodIn_of _ (by decide +kernel)) ggX1_firstDone_X3_wrongOf
set_option maxRecDepth 20000 in
theorem ggX1_leastRent_X3_rentOf : GoodIn wsX1_leastRent wsX3_rentOf := goodIn_r _ [8, 9, 10, 11, 12, 13, 7, 14, 15, 16, 23, 24, 25, 26, 27, 28, 29, 30, 31, 32, 33, 34, 35, 36, 37] (by decide +kernel) (by decide +kernel)
set_option maxRecDepth 20000 in
theorem gX1_leastRent_X3_rentOf : GoodIn wsX1_leastRent (wsV RX1 60 RX3 yX3_rentOf wsX3_rentOf) := goodIn_app (goodIn_of _ (by decide +kernel)) ggX1_leastRent_X3_rentOf
set_option maxRecDepth 20000 in
theorem ggX1_setOf_X1_stepsTo : GoodIn wsX1_setOf wsX1_stepsTo := goodIn_r _ [7, 8, 9, 10, 11, 12, 13, 14, 15] (by decide +kernel) (by decide +kernel)
set_option maxRecDepth 20000 in
theorem gX1_setOf_X1_stepsTo : GoodIn wsX1_setOf (wsV RX1 63 RX1 yX1_stepsTo wsX1_stepsTo) := goodIn_app (goodIn_of _ (by decide +kernel)) ggX1_setOf_X1_stepsTo
set_option maxRecDepth 20000 in
theorem ggX2_readAll_X2_split : GoodIn wsX2_readAll wsX2_split := goodIn_r _ [15, 6, 16, 10, 17, 18, 19, 20, 14, 21, 22, 23, 24, 25, 1, 26, 27, 28, 29, 30, 31, 32, 33, 34, 35, 36, 37, 38, 39, 40, 41, 42, 43, 44, 45, 46, 47, 48, 49, 50, 51, 52, 53, 54, 55, 56, 57, 58, 59, 60, 61, 62, 63, 64, 65, 66, 67, 68, 69, 70, 71, 72, 73, 74, 75, 76, 77, 78, 79, 80, 81, 82, 83, 84, 85, 86, 87, 88, 89, 90, 91, 92, 93, 94, 95, 96, 97, 98, 99, 100, 178, 179, 180, 181, 182, 183, 184, 185] (by decide +kernel) (by decide +kernel)
set_option maxRecDepth 20000 in
theorem gX2_readAll_X2_split : GoodIn wsX2_readAll (wsV RX2 34 RX2 yX2_split wsX2_split) := goodIn_app (goodIn_of _ (by decide +kernel)) ggX2_readAll_X2_split
set_option maxRecDepth 20000 in
theorem ggX2_readAll_X3_beginAnew : GoodIn wsX2_readAll wsX3_beginAnew := goodIn_r _ [105, 106, 107, 108, 109, 110, 111, 112, 113, 114, 186, 187, 188, 189, 190, 191, 192, 193, 194, 195, 196, 197, 198, 199, 200] (by decide +kernel) (by decide +kernel)
set_option maxRecDepth 20000 in
theorem gX2_readAll_X3_beginAnew : GoodIn wsX2_readAll (wsV RX2 46 RX3 yX3_beginAnew wsX3_beginAnew) := goodIn_app (goodIn_of _ (by decide +kernel)) ggX2_readAll_X3_beginAnew
set_option maxRecDepth 20000 in
theorem ggX2_readAll_X2_readItem : GoodIn wsX2_readAll wsX2_readItem := goodIn_r _ [118, 10, 7, 119, 120, 121, 122, 123, 124, 14, 125, 126, 8, 127, 128, 129, 130, 16, 131, 132, 133, 134, 135, 136, 137, 138, 17, 139, 140, 141, 142, 143, 144, 145, 104, 146, 106, 147, 148, 149, 150, 109, 113, 114, 107, 151, 152, 153, 154, 155, 156, 157, 158, 159, 108, 160, 161, 162, 163, 164, 165, 166, 167, 9, 168, 169, 170, 171, 178, 179, 180, 181, 182, 183, 184, 185, 186, 187, 188, 189, 190, 191, 192, 193, 194, 195, 196, 197, 198, 199, 200] (by decide +kernel) (by decide +kernel)
set_option maxRecDepth 20000 in
theorem gX2_readAll_X2_readItem : GoodIn wsX2_readAll (wsV RX2 51 RX2 yX2_readItem wsX2_readItem) := goodIn_app (goodIn_of _ (by decide +kernel)) ggX2_readAll_X2_readItem
set_option maxRecDepth 20000 in
theorem ggX2_readAll_X3_settle : GoodIn wsX2_readAll wsX3_settle := goodIn_r _ [175, 176, 177, 106, 149, 150, 186, 187, 188, 189, 190, 191, 192, 193, 194, 195, 196, 197, 198, 199, 200] (by decide +kernel) (by decide +kernel)
set_option maxRecDepth 20000 in
theorem gX2_readAll_X3_settle : GoodIn wsX2_readAll (wsV RX2 55 RX3 yX3_settle wsX3_settle) := goodIn_app (goodIn_of _ (by decide +kernel)) ggX2_readAll_X3_settle
set_option maxRecDepth 20000 in
theorem ggX2_readItem_X2_readThing : GoodIn wsX2_readItem wsX2_readThing := goodIn_r _ [10, 11, 12, 13, 14, 15, 9, 16, 17, 2, 18, 19, 20, 21, 22, 23, 24, 25, 26, 1, 27, 28, 29, 30, 31, 32, 33, 34, 35, 36, 37, 38, 39, 40, 41, 42, 43, 44, 76, 77, 78, 79, 80, 81, 82, 83, 84, 85, 86, 87, 88, 89, 90, 68, 69, 70, 71, 72, 73, 74, 75] (by decide +kernel) (by decide +kernel)
set_option maxRecDepth 20000 in
theorem gX2_readItem_X2_readThing : GoodIn wsX2_readItem (wsV RX2 58 RX2 yX2_readThing wsX2_readThing) := goodIn_app (goodIn_of _ (by decide +kernel)) ggX2_readItem_X2_readThing
set_option maxRecDepth 20000 in
theorem ggX2_readItem_X2_readFears : GoodIn wsX2_readItem wsX2_readFears := goodIn_r _ [48, 49, 11, 1, 2, 26, 12, 13, 14, 15, 9, 16, 17, 18, 19, 20, 21, 22, 23, 24, 25, 27, 28, 29, 30, 50, 51, 52, 34, 53, 40, 54, 55, 56, 57, 58, 36, 76, 77, 78, 79, 80, 81, 82, 83, 84, 85, 86, 87, 88, 89, 90, 68, 69, 70, 71, 72, 73, 74, 75] (by decide +kernel) (by decide +kernel)
set_option maxRecDepth 20000 in
theorem gX2_readItem_X2_readFears : GoodIn wsX2_readItem (wsV RX2 61 RX2 yX2_readFears wsX2_readFears) := goodIn_app (goodIn_of _ (by decide +kernel)) ggX2_readItem_X2_readFears
set_option maxRecDepth 20000 in
theorem ggX2_readItem_X2_readOnce : GoodIn wsX2_readItem wsX2_readOnce := goodIn_r _ [62, 1, 2, 63, 13, 14, 15, 9, 16, 12, 17, 18, 19, 20, 21, 22, 23, 24, 25, 26, 27, 28, 29, 30, 68, 69, 70, 71, 72, 73, 74, 75] (by decide +kernel) (by decide +kernel)
set_option maxRecDepth 20000 in
theorem gX2_readItem_X2_readOnce : GoodIn wsX2_readItem (wsV RX2 64 RX2 yX2_readOnce wsX2_readOnce) := goodIn_app (goodIn_of _ (by decide +kernel)) ggX2_readItem_X2_readOnce
set_option maxRecDepth 20000 in
theorem ggX2_readItem_X3_putFerry : GoodIn wsX2_readItem wsX3_putFerry := goodIn_r _ [67, 41, 76, 77, 78, 79, 80, 81, 82, 83, 84, 85, 86, 87, 88, 89, 90] (by decide +kernel) (by decide +kernel)
set_option maxRecDepth 20000 in
theorem gX2_readItem_X3_putFerry : GoodIn wsX2_readItem (wsV RX2 67 RX3 yX3_putFerry wsX3_putFerry) := goodIn_app (goodIn_of _ (by decide +kernel)) ggX2_readItem_X3_putFerry
set_option maxRecDepth 20000 in
theorem ggX2_readItem_X2_fail : GoodIn wsX2_readItem wsX2_fail := goodIn_r _ [16, 12, 17, 2, 68, 69, 70, 71, 72, 73, 74, 75] (by decide +kernel) (by decide +kernel)
set_option maxRecDepth 20000 in
theorem gX2_readItem_X2_fail : GoodIn wsX2_readItem (wsV RX2 80 RX2 yX2_fail wsX2_fail) := goodIn_app (goodIn_of _ (by decide +kernel)) ggX2_readItem_X2_fail
set_option maxRecDepth 20000 in
theorem ggX2_readThing_X2_fail : GoodIn wsX2_readThing wsX2_fail := goodIn_r _ [7, 2, 8, 9, 53, 54, 55, 56, 57, 58, 59, 60] (by decide +kernel) (by decide +kernel)
set_option maxRecDepth 20000 in
theorem gX2_readThing_X2_fail : GoodIn wsX2_readThing (wsV RX2 80 RX2 yX2_fail wsX2_fail) := goodIn_app (goodIn_of _ (by decide +kernel)) ggX2_readThing_X2_fail
set_option maxRecDepth 20000 in
theorem ggX2_readThing_X2_advance : GoodIn wsX2_readThing wsX2_advance := goodIn_r _ [13, 9, 53, 54, 55, 56, 57, 58, 59, 60] (by decide +kernel) (by decide +kernel)
set_option maxRecDepth 20000 in
theorem gX2_readThing_X2_advance : GoodIn wsX2_readThing (wsV RX2 86 RX2 yX2_advance wsX2_advance) := goodIn_app (goodIn_of _ (by decide +kernel)) ggX2_readThing_X2_advance
set_option maxRecDepth 20000 in
theorem ggX2_readThing_X2_readNumber : GoodIn wsX2_readThing wsX2_readNumber := goodIn_r _ [17, 18, 9, 19, 3, 4, 5, 6, 7, 2, 8, 10, 11, 12, 13, 53, 54, 55, 56, 57, 58, 59, 60] (by decide +kernel) (by decide +kernel)
set_option maxRecDepth 20000 in
theorem gX2_readThing_X2_readNumber : GoodIn wsX2_readThing (wsV RX2 89 RX2 yX2_readNumber wsX2_readNumber) := goodIn_app (goodIn_of _ (by decide +kernel)) ggX2_readThing_X2_readNumber
set_option maxRecDepth 20000 in
theorem ggX2_readThing_X2_readStop : GoodIn wsX2_readThing wsX2_readStop := goodIn_r _ [23, 19, 9, 3, 4, 5, 6, 7, 2, 8, 10, 11, 12, 13, 53, 54, 55, 56, 57, 58, 59, 60] (by decide +kernel) (by decide +kernel)
set_option maxRecDepth 20000 in
theorem gX2_readThing_X2_readStop : GoodIn wsX2_readThing (wsV RX2 92 RX2 yX2_readStop wsX2_readStop) := goodIn_app (goodIn_of _ (by decide +kernel)) ggX2_readThing_X2_readStop
set_option maxRecDepth 20000 in
theorem ggX2_readThing_X3_addThing : GoodIn wsX2_readThing wsX3_addThing := goodIn_r _ [28, 29, 30, 31, 32, 33, 34, 35, 36, 37, 38, 39, 40, 41, 42, 43, 44, 45, 46, 47, 48, 49, 50, 51, 52] (by decide +kernel) (by decide +kernel)
set_option maxRecDepth 20000 in
theorem gX2_readThing_X3_addThing : GoodIn wsX2_readThing (wsV RX2 95 RX3 yX3_addThing wsX3_addThing) := goodIn_app (goodIn_of _ (by decide +kernel)) ggX2_readThing_X3_addThing
set_option maxRecDepth 20000 in
theorem ggX2_readFears_X2_fail : GoodIn wsX2_readFears wsX2_fail := goodIn_r _ [11, 6, 12, 4, 52, 53, 54, 55, 56, 57, 58, 59] (by decide +kernel) (by decide +kernel)
set_option maxRecDepth 20000 in
theorem gX2_readFears_X2_fail : GoodIn wsX2_readFears (wsV RX2 80 RX2 yX2_fail wsX2_fail) := goodIn_app (goodIn_of _ (by decide +kernel)) ggX2_readFears_X2_fail
set_option maxRecDepth 20000 in
theorem ggX2_readFears_X2_advance : GoodIn wsX2_readFears wsX2_advance := goodIn_r _ [16, 4, 52, 53, 54, 55, 56, 57, 58, 59] (by decide +kernel) (by decide +kernel)
set_option maxRecDepth 20000 in
theorem gX2_readFears_X2_advance : GoodIn wsX2_readFears (wsV RX2 86 RX2 yX2_advance wsX2_advance) := goodIn_app (goodIn_of _ (by decide +kernel)) ggX2_readFears_X2_advance
set_option maxRecDepth 20000 in
theorem ggX2_readFears_X2_readNumber : GoodIn wsX2_readFears wsX2_readNumber := goodIn_r _ [20, 5, 4, 3, 7, 8, 9, 10, 11, 6, 12, 13, 14, 15, 16, 52, 53, 54, 55, 56, 57, 58, 59] (by decide +kernel) (by decide +kernel)
set_option maxRecDepth 20000 in
theorem gX2_readFears_X2_readNumber : GoodIn wsX2_readFears (wsV RX2 89 RX2 yX2_readNumber wsX2_readNumber) := goodIn_app (goodIn_of _ (by decide +kernel)) ggX2_readFears_X2_readNumber
set_option maxRecDepth 20000 in
theorem ggX2_readFears_X2_readStop : GoodIn wsX2_readFears wsX2_readStop := goodIn_r _ [24, 3, 4, 7, 8, 9, 10, 11, 6, 12, 13, 14, 15, 16, 52, 53, 54, 55, 56, 57, 58, 59] (by decide +kernel) (by decide +kernel)
set_option maxRecDepth 20000 in
theorem gX2_readFears_X2_readStop : GoodIn wsX2_readFears (wsV RX2 92 RX2 yX2_readStop wsX2_readStop) := goodIn_app (goodIn_of _ (by decide +kernel)) ggX2_readFears_X2_readStop
set_option maxRecDepth 20000 in
theorem ggX2_readFears_X3_addPair : GoodIn wsX2_readFears wsX3_addPair := goodIn_r _ [29, 30, 31, 32, 33, 34, 28, 35, 36, 37, 38, 39, 40, 41, 42, 43, 44, 45, 46, 47, 48, 49, 50, 51] (by decide +kernel) (by decide +kernel)
set_option maxRecDepth 20000 in
theorem gX2_readFears_X3_addPair : GoodIn wsX2_readFears (wsV RX2 102 RX3 yX3_addPair wsX3_addPair) := goodIn_app (goodIn_of _ (by decide +kernel)) ggX2_readFears_X3_addPair
set_option maxRecDepth 20000 in
theorem ggX2_readOnce_X2_fail : GoodIn wsX2_readOnce wsX2_fail := goodIn_r _ [8, 9, 10, 2, 24, 25, 26, 27, 28, 29, 30, 31] (by decide +kernel) (by decide +kernel)
set_option maxRecDepth 20000 in
theorem gX2_readOnce_X2_fail : GoodIn wsX2_readOnce (wsV RX2 80 RX2 yX2_fail wsX2_fail) := goodIn_app (goodIn_of _ (by decide +kernel)) ggX2_readOnce_X2_fail
set_option maxRecDepth 20000 in
theorem ggX2_readOnce_X2_advance : GoodIn wsX2_readOnce wsX2_advance := goodIn_r _ [14, 2, 24, 25, 26, 27, 28, 29, 30, 31] (by decide +kernel) (by decide +kernel)
set_option maxRecDepth 20000 in
theorem gX2_readOnce_X2_advance : GoodIn wsX2_readOnce (wsV RX2 86 RX2 yX2_advance wsX2_advance) := goodIn_app (goodIn_of _ (by decide +kernel)) ggX2_readOnce_X2_advance
set_option maxRecDepth 20000 in
theorem ggX2_readOnce_X2_readNumber : GoodIn wsX2_readOnce wsX2_readNumber := goodIn_r _ [18, 19, 2, 1, 4, 5, 6, 7, 8, 9, 10, 11, 12, 13, 14, 24, 25, 26, 27, 28, 29, 30, 31] (by decide +kernel) (by decide +kernel)
set_option maxRecDepth 20000 in
theorem gX2_readOnce_X2_readNumber : GoodIn wsX2_readOnce (wsV RX2 89 RX2 yX2_readNumber wsX2_readNumber) := goodIn_app (goodIn_of _ (by decide +kernel)) ggX2_readOnce_X2_readNumber
set_option maxRecDepth 20000 in
theorem ggX2_readOnce_X2_readStop : GoodIn wsX2_readOnce wsX2_readStop := goodIn_r _ [23, 1, 2, 4, 5, 6, 7, 8, 9, 10, 11, 12, 13, 14, 24, 25, 26, 27, 28, 29, 30, 31] (by decide +kernel) (by decide +kernel)
set_option maxRecDepth 20000 in
theorem gX2_readOnce_X2_readStop : GoodIn wsX2_readOnce (wsV RX2 92 RX2 yX2_readStop wsX2_readStop) := goodIn_app (goodIn_of _ (by decide +kernel)) ggX2_readOnce_X2_readStop
set_option maxRecDepth 20000 in
theorem ggX2_readNumber_X2_fail : GoodIn wsX2_readNumber wsX2_fail := goodIn_r _ [8, 9, 10, 2, 15, 16, 17, 18, 19, 20, 21, 22] (by decide +kernel) (by decide +kernel)
set_option maxRecDepth 20000 in
theorem gX2_readNumber_X2_fail : GoodIn wsX2_readNumber (wsV RX2 80 RX2 yX2_fail wsX2_fail) := goodIn_app (goodIn_of _ (by decide +kernel)) ggX2_readNumber_X2_fail
set_option maxRecDepth 20000 in
theorem ggX2_readNumber_X2_advance : GoodIn wsX2_readNumber wsX2_advance := goodIn_r _ [14, 2, 15, 16, 17, 18, 19, 20, 21, 22] (by decide +kernel) (by decide +kernel)
set_option maxRecDepth 20000 in
theorem gX2_readNumber_X2_advance : GoodIn wsX2_readNumber (wsV RX2 86 RX2 yX2_advance wsX2_advance) := goodIn_app (goodIn_of _ (by decide +kernel)) ggX2_readNumber_X2_advance
set_option maxRecDepth 20000 in
theorem ggX2_readStop_X2_fail : GoodIn wsX2_readStop wsX2_fail := goodIn_r _ [7, 8, 9, 2, 14, 15, 16, 17, 18, 19, 20, 21] (by decide +kernel) (by decide +kernel)
set_option maxRecDepth 20000 in
theorem gX2_readStop_X2_fail : GoodIn wsX2_readStop (wsV RX2 80 RX2 yX2_fail wsX2_fail) := goodIn_app (goodIn_of _ (by decide +kernel)) ggX2_readStop_X2_fail
set_option maxRecDepth 20000 in
theorem ggX2_readStop_X2_advance : GoodIn wsX2_readStop wsX2_advance := goodIn_r _ [13, 2, 14, 15, 16, 17, 18, 19, 20, 21] (by decide +kernel) (by decide +kernel)
set_option maxRecDepth 20000 in
theorem gX2_readStop_X2_advance : GoodIn wsX2_readStop (wsV RX2 86 RX2 yX2_advance wsX2_advance) := goodIn_app (goodIn_of _ (by decide +kernel)) ggX2_readStop_X2_advance
set_option maxRecDepth 20000 in
theorem ggX2_split_X2_behindBlanks : GoodIn wsX2_split wsX2_behindBlanks := goodIn_r _ [9, 1, 10, 11, 12, 8, 13, 14, 90, 91, 92, 93, 94, 95, 96, 97] (by decide +kernel) (by decide +kernel)
set_option maxRecDepth 20000 in
theorem gX2_split_X2_behindBlanks : GoodIn wsX2_split (wsV RX2 106 RX2 yX2_behindBlanks wsX2_behindBlanks) := goodIn_app (goodIn_of _ (by decide +kernel)) ggX2_split_X2_behindBlanks
set_option maxRecDepth 20000 in
theorem ggX2_split_X2_endOf : GoodIn wsX2_split wsX2_endOf := goodIn_r _ [18, 1, 10, 11, 12, 8, 13, 14, 19, 20, 21, 22, 23, 24, 90, 91, 92, 93, 94, 95, 96, 97] (by decide +kernel) (by decide +kernel)
set_option maxRecDepth 20000 in
theorem gX2_split_X2_endOf : GoodIn wsX2_split (wsV RX2 110 RX2 yX2_endOf wsX2_endOf) := goodIn_app (goodIn_of _ (by decide +kernel)) ggX2_split_X2_endOf
set_option maxRecDepth 20000 in
theorem ggX2_split_X2_tokenOf : GoodIn wsX2_split wsX2_tokenOf := goodIn_r _ [28, 10, 11, 12, 8, 13, 14, 1, 19, 20, 21, 29, 30, 31, 32, 33, 34, 35, 36, 37, 38, 39, 40, 41, 42, 43, 44, 45, 46, 47, 48, 49, 50, 51, 52, 53, 54, 55, 56, 57, 58, 59, 60, 61, 62, 63, 64, 65, 66, 67, 68, 69, 70, 71, 72, 73, 74, 75, 76, 77, 78, 79, 80, 81, 82, 83, 84, 85, 22, 23, 24, 90, 91, 92, 93, 94, 95, 96, 97] (by decide +kernel) (by decide +kernel)
set_option maxRecDepth 20000 in
theorem gX2_split_X2_tokenOf : GoodIn wsX2_split (wsV RX2 113 RX2 yX2_tokenOf wsX2_tokenOf) := goodIn_app (goodIn_of _ (by decide +kernel)) ggX2_split_X2_tokenOf
set_option maxRecDepth 20000 in
theorem ggX2_split_X2_numberOf : GoodIn wsX2_split wsX2_numberOf := goodIn_r _ [89, 10, 11, 12, 8, 13, 14, 1, 90, 91, 92, 93, 94, 95, 96, 97] (by decide +kernel) (by decide +kernel)
set_option maxRecDepth 20000 in
theorem gX2_split_X2_numberOf : GoodIn wsX2_split (wsV RX2 116 RX2 yX2_numberOf wsX2_numberOf) := goodIn_app (goodIn_of _ (by decide +kernel)) ggX2_split_X2_numberOf
set_option maxRecDepth 20000 in
theorem ggX2_behindBlanks_X2_byteAt : GoodIn wsX2_behindBlanks wsX2_byteAt := goodIn_r _ [6, 7, 1, 8, 9, 10, 11, 12, 13, 14, 15] (by decide +kernel) (by decide +kernel)
set_option maxRecDepth 20000 in
theorem gX2_behindBlanks_X2_byteAt : GoodIn wsX2_behindBlanks (wsV RX2 119 RX2 yX2_byteAt wsX2_byteAt) := goodIn_app (goodIn_of _ (by decide +kernel)) ggX2_behindBlanks_X2_byteAt
set_option maxRecDepth 20000 in
theorem ggX2_endOf_X2_byteAt : GoodIn wsX2_endOf wsX2_byteAt := goodIn_r _ [6, 7, 1, 14, 15, 16, 17, 18, 19, 20, 21] (by decide +kernel) (by decide +kernel)
set_option maxRecDepth 20000 in
theorem gX2_endOf_X2_byteAt : GoodIn wsX2_endOf (wsV RX2 119 RX2 yX2_byteAt wsX2_byteAt) := goodIn_app (goodIn_of _ (by decide +kernel)) ggX2_endOf_X2_byteAt
set_option maxRecDepth 20000 in
theorem ggX2_endOf_X2_isLetter : GoodIn wsX2_endOf wsX2_isLetter := goodIn_r _ [10] (by decide +kernel) (by decide +kernel)
set_option maxRecDepth 20000 in
theorem gX2_endOf_X2_isLetter : GoodIn wsX2_endOf (va_wsS RX2 122 yX2_isLetter wsX2_isLetter) := goodIn_app (goodIn_of _ (by decide +kernel)) ggX2_endOf_X2_isLetter
set_option maxRecDepth 20000 in
theorem ggX2_endOf_X2_isDigit : GoodIn wsX2_endOf wsX2_isDigit := goodIn_r _ [13] (by decide +kernel) (by decide +kernel)
set_option maxRecDepth 20000 in
theorem gX2_endOf_X2_isDigit : GoodIn wsX2_endOf (va_wsS RX2 126 yX2_isDigit wsX2_isDigit) := goodIn_app (goodIn_of _ (by decide +kernel)) ggX2_endOf_X2_isDigit
set_option maxRecDepth 20000 in
theorem ggX2_tokenOf_X2_byteAt : GoodIn wsX2_tokenOf wsX2_byteAt := goodIn_r _ [5, 6, 7, 71, 72, 73, 74, 75, 76, 77, 78] (by decide +kernel) (by decide +kernel)
set_option maxRecDepth 20000 in
theorem gX2_tokenOf_X2_byteAt : GoodIn wsX2_tokenOf (wsV RX2 119 RX2 yX2_byteAt wsX2_byteAt) := goodIn_app (goodIn_of _ (by decide +kernel)) ggX2_tokenOf_X2_byteAt
set_option maxRecDepth 20000 in
theorem ggX2_tokenOf_X2_isLetter : GoodIn wsX2_tokenOf wsX2_isLetter := goodIn_r _ [10] (by decide +kernel) (by decide +kernel)
set_option maxRecDepth 20000 in
theorem gX2_tokenOf_X2_isLetter : GoodIn wsX2_tokenOf (va_wsS RX2 122 yX2_isLetter wsX2_isLetter) := goodIn_app (goodIn_of _ (by decide +kernel)) ggX2_tokenOf_X2_isLetter
set_option maxRecDepth 20000 in
theorem ggX2_tokenOf_X2_wordOf : GoodIn wsX2_tokenOf wsX2_wordOf := goodIn_r _ [14, 15, 16, 17, 4, 18, 19, 20, 21, 22, 23, 24, 25, 26, 27, 28, 29, 30, 1, 2, 3, 5, 6, 7, 31, 32, 33, 34, 35, 36, 37, 38, 39, 40, 41, 42, 43, 44, 45, 46, 47, 48, 49, 50, 51, 52, 53, 54, 55, 56, 57, 58, 59, 60, 61, 62, 63, 64, 65, 66, 67, 71, 72, 73, 74, 75, 76, 77, 78] (by decide +kernel) (by decide +kernel)
set_option maxRecDepth 20000 in
theorem gX2_tokenOf_X2_wordOf : GoodIn wsX2_tokenOf (wsV RX2 129 RX2 yX2_wordOf wsX2_wordOf) := goodIn_app (goodIn_of _ (by decide +kernel)) ggX2_tokenOf_X2_wordOf
set_option maxRecDepth 20000 in
theorem ggX2_tokenOf_X2_isDigit : GoodIn wsX2_tokenOf wsX2_isDigit := goodIn_r _ [70] (by decide +kernel) (by decide +kernel)
set_option maxRecDepth 20000 in
theorem gX2_tokenOf_X2_isDigit : GoodIn wsX2_tokenOf (va_wsS RX2 126 yX2_isDigit wsX2_isDigit) := goodIn_app (goodIn_of _ (by decide +kernel)) ggX2_tokenOf_X2_isDigit
set_option maxRecDepth 20000 in
theorem ggX2_wordOf_X2_spells : GoodIn wsX2_wordOf wsX2_spells := goodIn_r _ [5, 6, 7, 8, 9, 10, 11, 12, 13, 14, 15, 16, 17, 18, 19, 20, 4, 21, 22, 23, 24, 25, 26, 27, 28, 29, 30, 31, 32, 33, 34, 35, 36, 37, 38, 39, 40, 41, 42, 43, 44, 45, 46, 47, 48, 49, 50, 51, 52, 53, 54, 55, 56, 57, 58, 59, 60, 61, 62, 63, 64, 65, 66, 67, 68] (by decide +kernel) (by decide +kernel)
set_option maxRecDepth 20000 in
theorem gX2_wordOf_X2_spells : GoodIn wsX2_wordOf (wsV RX2 134 RX2 yX2_spells wsX2_spells) := goodIn_app (goodIn_of _ (by decide +kernel)) ggX2_wordOf_X2_spells
set_option maxRecDepth 20000 in
theorem ggX2_spells_J0_length_8abf5 : GoodIn wsX2_spells wsJ0_length_8abf5 := goodIn_r _ [5, 6, 7, 8, 9, 4, 10, 11, 12] (by decide +kernel) (by decide +kernel)
set_option maxRecDepth 20000 in
theorem gX2_spells_J0_length_8abf5 : GoodIn wsX2_spells (wsV RX2 145 RJ0 yJ0_length_8abf5 wsJ0_length_8abf5) := goodIn_app (goodIn_of _ (by decide +kernel)) ggX2_spells_J0_length_8abf5
set_option maxRecDepth 20000 in
theorem ggX2_spells_X2_byteAt : GoodIn wsX2_spells wsX2_byteAt := goodIn_r _ [17, 18, 19, 57, 58, 59, 60, 61, 62, 63, 64] (by decide +kernel) (by decide +kernel)
set_option maxRecDepth 20000 in
theorem gX2_spells_X2_byteAt : GoodIn wsX2_spells (wsV RX2 119 RX2 yX2_byteAt wsX2_byteAt) := goodIn_app (goodIn_of _ (by decide +kernel)) ggX2_spells_X2_byteAt
set_option maxRecDepth 20000 in
theorem ggX2_spells_J0_charAt_5068e : GoodIn wsX2_spells wsJ0_charAt_5068e := goodIn_r _ [23, 6, 24, 25, 26, 4, 27, 11, 12, 28, 29, 30, 31, 32, 33, 34, 35, 36, 37, 38, 39, 40, 41, 42, 43, 44, 45, 46, 47, 48, 49, 50, 51, 52, 53, 54, 55, 56] (by decide +kernel) (by decide +kernel)
set_option maxRecDepth 20000 in
theorem gX2_spells_J0_charAt_5068e : GoodIn wsX2_spells (wsV RX2 150 RJ0 yJ0_charAt_5068e wsJ0_charAt_5068e) := goodIn_app (goodIn_of _ (by decide +kernel)) ggX2_spells_J0_charAt_5068e
set_option maxRecDepth 20000 in
theorem ggX2_numberOf_X2_byteAt : GoodIn wsX2_numberOf wsX2_byteAt := goodIn_r _ [5, 6, 7, 8, 9, 10, 11, 12, 13, 14, 15] (by decide +kernel) (by decide +kernel)
set_option maxRecDepth 20000 in
theorem gX2_numberOf_X2_byteAt : GoodIn wsX2_numberOf (wsV RX2 119 RX2 yX2_byteAt wsX2_byteAt) := goodIn_app (goodIn_of _ (by decide +kernel)) ggX2_numberOf_X2_byteAt
set_option maxRecDepth 20000 in
theorem ggX3_init_X3_beginAnew : GoodIn wsX3_init wsX3_beginAnew := goodIn_r _ [16, 17, 18, 19, 20, 21, 22, 23, 24, 25, 30, 31, 32, 33, 34, 35, 36, 37, 38, 39, 40, 41, 42, 43, 44] (by decide +kernel) (by decide +kernel)
set_option maxRecDepth 20000 in
theorem gX3_init_X3_beginAnew : GoodIn wsX3_init (wsV RX3 29 RX3 yX3_beginAnew wsX3_beginAnew) := goodIn_app (goodIn_of _ (by decide +kernel)) ggX3_init_X3_beginAnew
set_option maxRecDepth 20000 in
theorem ggX3_init_X3_settle : GoodIn wsX3_init wsX3_settle := goodIn_r _ [29, 9, 11, 17, 7, 8, 30, 31, 32, 33, 34, 35, 36, 37, 38, 39, 40, 41, 42, 43, 44] (by decide +kernel) (by decide +kernel)
set_option maxRecDepth 20000 in
theorem gX3_init_X3_settle : GoodIn wsX3_init (wsV RX3 32 RX3 yX3_settle wsX3_settle) := goodIn_app (goodIn_of _ (by decide +kernel)) ggX3_init_X3_settle
set_option maxRecDepth 20000 in
theorem ggX3_addPair_X3_has : GoodIn wsX3_addPair wsX3_has := goodIn_r _ [7, 8, 9, 10, 11, 12, 13, 14, 15, 16, 17, 18, 19, 20, 21, 22, 23] (by decide +kernel) (by decide +kernel)
set_option maxRecDepth 20000 in
theorem gX3_addPair_X3_has : GoodIn wsX3_addPair (wsV RX3 63 RX3 yX3_has wsX3_has) := goodIn_app (goodIn_of _ (by decide +kernel)) ggX3_addPair_X3_has
set_option maxRecDepth 20000 in
theorem ggX3_atFerry_X3_ferryOf : GoodIn wsX3_atFerry wsX3_ferryOf := goodIn_r _ [5] (by decide +kernel) (by decide +kernel)
set_option maxRecDepth 20000 in
theorem gX3_atFerry_X3_ferryOf : GoodIn wsX3_atFerry (va_wsS RX3 67 yX3_ferryOf wsX3_ferryOf) := goodIn_app (goodIn_of _ (by decide +kernel)) ggX3_atFerry_X3_ferryOf
set_option maxRecDepth 20000 in
theorem ggX3_setsOf_J6_bitCount_0f7a4 : GoodIn wsX3_setsOf wsJ6_bitCount_0f7a4 := goodIn_r _ [4, 5, 6, 7] (by decide +kernel) (by decide +kernel)
set_option maxRecDepth 20000 in
theorem gX3_setsOf_J6_bitCount_0f7a4 : GoodIn wsX3_setsOf (va_wsS RX3 71 yJ6_bitCount_0f7a4 wsJ6_bitCount_0f7a4) := goodIn_app (goodIn_of _ (by decide +kernel)) ggX3_setsOf_J6_bitCount_0f7a4
set_option maxRecDepth 20000 in
theorem ggX3_isSafe_X3_atFerry : GoodIn wsX3_isSafe wsX3_atFerry := goodIn_r _ [7, 2, 8, 9, 6, 10, 11, 12, 13, 14, 15, 16, 17, 18, 19, 20, 21, 22, 23, 24, 25] (by decide +kernel) (by decide +kernel)
set_option maxRecDepth 20000 in
theorem gX3_isSafe_X3_atFerry : GoodIn wsX3_isSafe (wsV RX3 76 RX3 yX3_atFerry wsX3_atFerry) := goodIn_app (goodIn_of _ (by decide +kernel)) ggX3_isSafe_X3_atFerry
set_option maxRecDepth 20000 in
theorem ggX3_rentOf_X3_wrongOf : GoodIn wsX3_rentOf wsX3_wrongOf := goodIn_r _ [7, 8, 9, 10, 11, 12, 13, 14, 15, 16, 17, 18, 19, 20, 21, 22, 23, 24] (by decide +kernel) (by decide +kernel)
set_option maxRecDepth 20000 in
theorem gX3_rentOf_X3_wrongOf : GoodIn wsX3_rentOf (wsV RX3 79 RX3 yX3_wrongOf wsX3_wrongOf) := goodIn_app (goodIn_of _ (by decide +kernel)) ggX3_rentOf_X3_wrongOf
set_option maxRecDepth 20000 in
theorem ggX3_crossing_X3_atFerry : GoodIn wsX3_crossing wsX3_atFerry := goodIn_r _ [7, 8, 9, 10, 6, 11, 12, 13, 14, 15, 16, 17, 18, 19, 20, 21, 22, 23, 24, 25, 26] (by decide +kernel) (by decide +kernel)
set_option maxRecDepth 20000 in
theorem gX3_crossing_X3_atFerry : GoodIn wsX3_crossing (wsV RX3 76 RX3 yX3_atFerry wsX3_atFerry) := goodIn_app (goodIn_of _ (by decide +kernel)) ggX3_crossing_X3_atFerry
set_option maxRecDepth 20000 in
theorem ggX4_follow_J7_fill_d0a16 : GoodIn wsX4_follow wsJ7_fill_d0a16 := goodIn_r _ [6] (by decide +kernel) (by decide +kernel)
set_option maxRecDepth 20000 in
theorem gX4_follow_J7_fill_d0a16 : GoodIn wsX4_follow (va_wsS RX4 32 yJ7_fill_d0a16 wsJ7_fill_d0a16) := goodIn_app (goodIn_of _ (by decide +kernel)) ggX4_follow_J7_fill_d0a16
set_option maxRecDepth 20000 in
theorem ggX4_follow_X4_agrees : GoodIn wsX4_follow wsX4_agrees := goodIn_r _ [11, 12, 13, 14, 15, 51, 52, 53, 54, 55] (by decide +kernel) (by decide +kernel)
set_option maxRecDepth 20000 in
theorem gX4_follow_X4_agrees : GoodIn wsX4_follow (wsV RX4 41 RX4 yX4_agrees wsX4_agrees) := goodIn_app (goodIn_of _ (by decide +kernel)) ggX4_follow_X4_agrees
set_option maxRecDepth 20000 in
theorem ggX4_follow_X4_followFrom : GoodIn wsX4_follow wsX4_followFrom := goodIn_r _ [19, 20, 21, 1, 22, 23, 24, 25, 26, 27, 28, 29, 30, 31, 32, 33, 34, 35, 36, 37, 38, 39, 40, 41, 42, 43, 44, 45, 46, 47, 7, 8, 9, 10, 11, 12, 13, 14, 15, 48, 49, 50, 56, 57, 58, 59, 60, 61, 62, 63, 64, 65, 66, 67, 68, 69, 70, 51, 52, 53, 54, 55] (by decide +kernel) (by decide +kernel)
set_option maxRecDepth 20000 in
theorem gX4_follow_X4_followFrom : GoodIn wsX4_follow (wsV RX4 45 RX4 yX4_followFrom wsX4_followFrom) := goodIn_app (goodIn_of _ (by decide +kernel)) ggX4_follow_X4_followFrom
set_option maxRecDepth 20000 in
theorem ggX4_followFrom_X3_atFerry : GoodIn wsX4_followFrom wsX3_atFerry := goodIn_r _ [8, 9, 10, 11, 7, 12, 42, 43, 44, 45, 46, 47, 48, 49, 50, 51, 52, 53, 54, 55, 56] (by decide +kernel) (by decide +kernel)
set_option maxRecDepth 20000 in
theorem gX4_followFrom_X3_atFerry : GoodIn wsX4_followFrom (wsV RX4 49 RX3 yX3_atFerry wsX3_atFerry) := goodIn_app (goodIn_of _ (by decide +kernel)) ggX4_followFrom_X3_atFerry
set_option maxRecDepth 20000 in
theorem ggX4_followFrom_X3_setsOf : GoodIn wsX4_followFrom wsX3_setsOf := goodIn_r _ [15, 16, 17, 18, 19, 20, 21, 22] (by decide +kernel) (by decide +kernel)
set_option maxRecDepth 20000 in
theorem gX4_followFrom_X3_setsOf : GoodIn wsX4_followFrom (va_wsS RX4 53 yX3_setsOf wsX3_setsOf) := goodIn_app (goodIn_of _ (by decide +kernel)) ggX4_followFrom_X3_setsOf
set_option maxRecDepth 20000 in
theorem ggX4_followFrom_X3_crossing : GoodIn wsX4_followFrom wsX3_crossing := goodIn_r _ [26, 27, 28, 29, 5, 6, 7, 8, 9, 10, 11, 12, 42, 43, 44, 45, 46, 47, 48, 49, 50, 51, 52, 53, 54, 55, 56] (by decide +kernel) (by decide +kernel)
set_option maxRecDepth 20000 in
theorem gX4_followFrom_X3_crossing : GoodIn wsX4_followFrom (wsV RX4 62 RX3 yX3_crossing wsX3_crossing) := goodIn_app (goodIn_of _ (by decide +kernel)) ggX4_followFrom_X3_crossing
set_option maxRecDepth 20000 in
theorem ggX4_followFrom_X4_agrees : GoodIn wsX4_followFrom wsX4_agrees := goodIn_r _ [34, 35, 36, 37, 38, 57, 58, 59, 60, 61] (by decide +kernel) (by decide +kernel)
set_option maxRecDepth 20000 in
theorem gX4_followFrom_X4_agrees : GoodIn wsX4_followFrom (wsV RX4 41 RX4 yX4_agrees wsX4_agrees) := goodIn_app (goodIn_of _ (by decide +kernel)) ggX4_followFrom_X4_agrees
set_option maxRecDepth 20000 in
theorem ggX4_followFrom_X3_nextSet : GoodIn wsX4_followFrom wsX3_nextSet := goodIn_r _ [41] (by decide +kernel) (by decide +kernel)
set_option maxRecDepth 20000 in
theorem gX4_followFrom_X3_nextSet : GoodIn wsX4_followFrom (va_wsS RX4 66 yX3_nextSet wsX3_nextSet) := goodIn_app (goodIn_of _ (by decide +kernel)) ggX4_followFrom_X3_nextSet
set_option maxRecDepth 20000 in
theorem ggX4_aboard_X4_keepThoseThatGoOn : GoodIn wsX4_aboard wsX4_keepThoseThatGoOn := goodIn_r _ [5, 6, 7, 8, 9, 4, 10, 11, 12, 13, 14, 15, 16, 17, 18, 19, 20, 21, 22, 23, 24, 25, 26, 27, 28, 29, 30, 31, 32, 33, 34, 35, 36, 37, 38, 39, 40, 41, 42, 43, 44, 45, 46, 47, 48, 49, 50, 51, 52, 53, 54, 55, 56, 57, 58, 59, 60, 61, 62, 63, 64, 65] (by decide +kernel) (by decide +kernel)
set_option maxRecDepth 20000 in
theorem gX4_aboard_X4_keepThoseThatGoOn : GoodIn wsX4_aboard (wsV RX4 70 RX4 yX4_keepThoseThatGoOn wsX4_keepThoseThatGoOn) := goodIn_app (goodIn_of _ (by decide +kernel)) ggX4_aboard_X4_keepThoseThatGoOn
set_option maxRecDepth 20000 in
theorem ggX4_keepThoseThatGoOn_X4_crossedFrom : GoodIn wsX4_keepThoseThatGoOn wsX4_crossedFrom := goodIn_r _ [6, 7, 8, 1, 9, 10, 11, 12, 13, 14, 15, 16, 17, 18, 19, 20, 21, 22, 23, 24, 25, 26, 27, 28, 29, 30, 31, 32, 33, 34, 35, 36, 37, 38, 39, 40, 41, 47, 48, 49, 50, 51, 52, 53, 54, 55, 56, 57, 58, 59, 60, 61, 42, 43, 44, 45, 46] (by decide +kernel) (by decide +kernel)
set_option maxRecDepth 20000 in
theorem gX4_keepThoseThatGoOn_X4_crossedFrom : GoodIn wsX4_keepThoseThatGoOn (wsV RX4 74 RX4 yX4_crossedFrom wsX4_crossedFrom) := goodIn_app (goodIn_of _ (by decide +kernel)) ggX4_keepThoseThatGoOn_X4_crossedFrom
set_option maxRecDepth 20000 in
theorem ggX4_crossedFrom_X3_atFerry : GoodIn wsX4_crossedFrom wsX3_atFerry := goodIn_r _ [12, 13, 14, 15, 11, 16, 37, 38, 39, 40, 41, 42, 43, 44, 45, 46, 47, 48, 49, 50, 51] (by decide +kernel) (by decide +kernel)
set_option maxRecDepth 20000 in
theorem gX4_crossedFrom_X3_atFerry : GoodIn wsX4_crossedFrom (wsV RX4 49 RX3 yX3_atFerry wsX3_atFerry) := goodIn_app (goodIn_of _ (by decide +kernel)) ggX4_crossedFrom_X3_atFerry
set_option maxRecDepth 20000 in
theorem ggX4_crossedFrom_X3_setsOf : GoodIn wsX4_crossedFrom wsX3_setsOf := goodIn_r _ [19, 20, 21, 22, 23, 24, 25, 26] (by decide +kernel) (by decide +kernel)
set_option maxRecDepth 20000 in
theorem gX4_crossedFrom_X3_setsOf : GoodIn wsX4_crossedFrom (va_wsS RX4 53 yX3_setsOf wsX3_setsOf) := goodIn_app (goodIn_of _ (by decide +kernel)) ggX4_crossedFrom_X3_setsOf
set_option maxRecDepth 20000 in
theorem ggX4_crossedFrom_X3_crossing : GoodIn wsX4_crossedFrom wsX3_crossing := goodIn_r _ [30, 31, 32, 33, 9, 10, 11, 12, 13, 14, 15, 16, 37, 38, 39, 40, 41, 42, 43, 44, 45, 46, 47, 48, 49, 50, 51] (by decide +kernel) (by decide +kernel)
set_option maxRecDepth 20000 in
theorem gX4_crossedFrom_X3_crossing : GoodIn wsX4_crossedFrom (wsV RX4 62 RX3 yX3_crossing wsX3_crossing) := goodIn_app (goodIn_of _ (by decide +kernel)) ggX4_crossedFrom_X3_crossing
set_option maxRecDepth 20000 in
theorem ggX4_crossedFrom_X3_nextSet : GoodIn wsX4_crossedFrom wsX3_nextSet := goodIn_r _ [36] (by decide +kernel) (by decide +kernel)
set_option maxRecDepth 20000 in
theorem gX4_crossedFrom_X3_nextSet : GoodIn wsX4_crossedFrom (va_wsS RX4 66 yX3_nextSet wsX3_nextSet) := goodIn_app (goodIn_of _ (by decide +kernel)) ggX4_crossedFrom_X3_nextSet
set_option maxRecDepth 20000 in
theorem ggX5_init_X2_init : GoodIn wsX5_init wsX2_init := goodIn_r _ [33, 34, 2, 3, 4, 35, 36, 37, 111, 112, 113, 114, 115, 116, 117, 118] (by decide +kernel) (by decide +kernel)
set_option maxRecDepth 20000 in
theorem gX5_init_X2_init_n19 : GoodIn wsX5_init (wsX2_init) := ggX5_init_X2_init
set_option maxRecDepth 20000 in
theorem ggX5_init_X3_init : GoodIn wsX5_init wsX3_init := goodIn_r _ [40, 41, 2, 3, 4, 42, 43, 44, 45, 46, 21, 47, 48, 49, 50, 13, 51, 52, 53, 54, 55, 56, 57, 58, 59, 60, 61, 62, 63, 64, 119, 120, 121, 122, 123, 124, 125, 126, 127, 128, 129, 130, 131, 132, 133] (by decide +kernel) (by decide +kernel)
set_option maxRecDepth 20000 in
theorem gX5_init_X3_init : GoodIn wsX5_init (wsX3_init) := ggX5_init_X3_init
set_option maxRecDepth 20000 in
theorem ggX5_init_X0_init : GoodIn wsX5_init wsX0_init := goodIn_r _ [66, 67, 2, 3, 68, 69, 70, 71, 72, 4, 73, 74, 134, 135, 136, 137, 138, 139, 140] (by decide +kernel) (by decide +kernel)
set_option maxRecDepth 20000 in
theorem gX5_init_X0_init_n36 : GoodIn wsX5_init (wsX0_init) := ggX5_init_X0_init
set_option maxRecDepth 20000 in
theorem ggX5_init_X1_init : GoodIn wsX5_init wsX1_init := goodIn_r _ [76, 77, 2, 3, 78, 4, 79, 80, 81, 82, 21, 83, 141, 142, 143, 144, 145, 146] (by decide +kernel) (by decide +kernel)
set_option maxRecDepth 20000 in
theorem gX5_init_X1_init_n51 : GoodIn wsX5_init (wsX1_init) := ggX5_init_X1_init
set_option maxRecDepth 20000 in
theorem ggX5_init_X4_init : GoodIn wsX5_init wsX4_init := goodIn_r _ [85, 86, 2, 3, 87, 4, 88, 89, 90, 91, 92, 93, 147, 148, 149, 150, 151] (by decide +kernel) (by decide +kernel)
set_option maxRecDepth 20000 in
theorem gX5_init_X4_init_n58 : GoodIn wsX5_init (wsX4_init) := ggX5_init_X4_init
set_option maxRecDepth 20000 in
theorem ggX5_init_X0_begin : GoodIn wsX5_init wsX0_begin := goodIn_r _ [97, 98, 68, 99, 69, 70, 72, 119, 120, 121, 122, 123, 124, 125, 126, 127, 128, 129, 130, 131, 132, 133, 134, 135, 136, 137, 138, 139, 140] (by decide +kernel) (by decide +kernel)
set_option maxRecDepth 20000 in
theorem gX5_init_X0_begin : GoodIn wsX5_init (wsV RX5 67 RX0 yX0_begin wsX0_begin) := goodIn_app (goodIn_of _ (by decide +kernel)) ggX5_init_X0_begin
set_option maxRecDepth 20000 in
theorem ggX5_river_X2_readAll : GoodIn wsX5_river wsX2_readAll := goodIn_r _ [13, 14, 15, 16, 17, 18, 19, 20, 21, 22, 23, 24, 25, 26, 12, 27, 28, 29, 30, 31, 32, 33, 34, 35, 36, 37, 38, 39, 40, 41, 42, 43, 44, 45, 46, 47, 48, 49, 50, 51, 52, 53, 54, 55, 56, 57, 58, 59, 60, 61, 62, 63, 64, 65, 66, 67, 68, 69, 70, 71, 72, 73, 74, 75, 76, 77, 78, 79, 80, 81, 82, 83, 84, 85, 86, 87, 88, 89, 90, 91, 92, 93, 94, 95, 96, 97, 98, 99, 100, 101, 102, 103, 104, 105, 106, 107, 108, 109, 110, 111, 112, 113, 114, 115, 116, 117, 118, 119, 120, 121, 122, 123, 124, 125, 126, 127, 128, 129, 130, 131, 132, 133, 134, 135, 136, 137, 138, 139, 140, 141, 142, 143, 144, 145, 146, 147, 148, 149, 150, 151, 152, 153, 154, 155, 156, 157, 158, 159, 160, 161, 162, 163, 164, 165, 166, 167, 168, 169, 170, 171, 172, 173, 174, 175, 176, 177, 178, 179, 180, 181, 182, 183, 184, 185, 186, 187, 188, 189, 218, 219, 220, 221, 222, 223, 224, 225, 226, 227, 228, 229, 230, 231, 232, 233, 234, 235, 236, 237, 238, 239, 240] (by decide +kernel) (by decide +kernel)
set_option maxRecDepth 20000 in
theorem gX5_river_X2_readAll : GoodIn wsX5_river (wsV RX5 71 RX2 yX2_readAll wsX2_readAll) := goodIn_app (goodIn_of _ (by decide +kernel)) ggX5_river_X2_readAll
set_option maxRecDepth 20000 in
theorem ggX5_river_X0_begin : GoodIn wsX5_river wsX0_begin := goodIn_r _ [194, 195, 196, 197, 198, 199, 200, 226, 227, 228, 229, 230, 231, 232, 233, 234, 235, 236, 237, 238, 239, 240, 241, 242, 243, 244, 245, 246, 247] (by decide +kernel) (by decide +kernel)
set_option maxRecDepth 20000 in
theorem gX5_river_X0_begin : GoodIn wsX5_river (wsV RX5 67 RX0 yX0_begin wsX0_begin) := goodIn_app (goodIn_of _ (by decide +kernel)) ggX5_river_X0_begin
set_option maxRecDepth 20000 in
theorem ggX5_river_X4_dropAll : GoodIn wsX5_river wsX4_dropAll := goodIn_r _ [205, 206, 248, 249, 250, 251, 252] (by decide +kernel) (by decide +kernel)
set_option maxRecDepth 20000 in
theorem gX5_river_X4_dropAll : GoodIn wsX5_river (wsV RX5 75 RX4 yX4_dropAll wsX4_dropAll) := goodIn_app (goodIn_of _ (by decide +kernel)) ggX5_river_X4_dropAll
set_option maxRecDepth 20000 in
theorem ggX5_thing_X3_has : GoodIn wsX5_thing wsX3_has := goodIn_r _ [11, 12, 30, 31, 32, 33, 34, 35, 36, 37, 38, 39, 40, 41, 42, 43, 44] (by decide +kernel) (by decide +kernel)
set_option maxRecDepth 20000 in
theorem gX5_thing_X3_has : GoodIn wsX5_thing (wsV RX5 78 RX3 yX3_has wsX3_has) := goodIn_app (goodIn_of _ (by decide +kernel)) ggX5_thing_X3_has
set_option maxRecDepth 20000 in
theorem ggX5_thing_X0_bankOf : GoodIn wsX5_thing wsX0_bankOf := goodIn_r _ [17, 18, 45, 46, 47, 48, 49, 50, 51] (by decide +kernel) (by decide +kernel)
set_option maxRecDepth 20000 in
theorem gX5_thing_X0_bankOf : GoodIn wsX5_thing (wsV RX5 82 RX0 yX0_bankOf wsX0_bankOf) := goodIn_app (goodIn_of _ (by decide +kernel)) ggX5_thing_X0_bankOf
set_option maxRecDepth 20000 in
theorem ggX5_now_X3_ferryOf : GoodIn wsX5_now wsX3_ferryOf := goodIn_r _ [10] (by decide +kernel) (by decide +kernel)
set_option maxRecDepth 20000 in
theorem gX5_now_X3_ferryOf : GoodIn wsX5_now (va_wsS RX5 101 yX3_ferryOf wsX3_ferryOf) := goodIn_app (goodIn_of _ (by decide +kernel)) ggX5_now_X3_ferryOf
set_option maxRecDepth 20000 in
theorem ggX5_now_X3_wrongOf : GoodIn wsX5_now wsX3_wrongOf := goodIn_r _ [14, 15, 16, 53, 54, 55, 56, 57, 58, 59, 60, 61, 62, 63, 64, 65, 66, 67] (by decide +kernel) (by decide +kernel)
set_option maxRecDepth 20000 in
theorem gX5_now_X3_wrongOf : GoodIn wsX5_now (wsV RX5 113 RX3 yX3_wrongOf wsX3_wrongOf) := goodIn_app (goodIn_of _ (by decide +kernel)) ggX5_now_X3_wrongOf
set_option maxRecDepth 20000 in
theorem ggX5_now_X3_rentOf : GoodIn wsX5_now wsX3_rentOf := goodIn_r _ [20, 21, 22, 23, 12, 13, 9, 14, 15, 16, 53, 54, 55, 56, 57, 58, 59, 60, 61, 62, 63, 64, 65, 66, 67] (by decide +kernel) (by decide +kernel)
set_option maxRecDepth 20000 in
theorem gX5_now_X3_rentOf : GoodIn wsX5_now (wsV RX5 116 RX3 yX3_rentOf wsX3_rentOf) := goodIn_app (goodIn_of _ (by decide +kernel)) ggX5_now_X3_rentOf
set_option maxRecDepth 20000 in
theorem ggX5_now_X3_isSafe : GoodIn wsX5_now wsX3_isSafe := goodIn_r _ [27, 28, 29, 30, 31, 32, 9, 33, 34, 8, 10, 53, 54, 55, 56, 57, 58, 59, 60, 61, 62, 63, 64, 65, 66, 67] (by decide +kernel) (by decide +kernel)
set_option maxRecDepth 20000 in
theorem gX5_now_X3_isSafe : GoodIn wsX5_now (wsV RX5 119 RX3 yX3_isSafe wsX3_isSafe) := goodIn_app (goodIn_of _ (by decide +kernel)) ggX5_now_X3_isSafe
set_option maxRecDepth 20000 in
theorem ggX5_cross_X3_crossing : GoodIn wsX5_cross wsX3_crossing := goodIn_r _ [11, 12, 13, 14, 15, 16, 10, 17, 18, 19, 20, 21, 47, 48, 49, 50, 51, 52, 53, 54, 55, 56, 57, 58, 59, 60, 61] (by decide +kernel) (by decide +kernel)
set_option maxRecDepth 20000 in
theorem gX5_cross_X3_crossing : GoodIn wsX5_cross (wsV RX5 125 RX3 yX3_crossing wsX3_crossing) := goodIn_app (goodIn_of _ (by decide +kernel)) ggX5_cross_X3_crossing
set_option maxRecDepth 20000 in
theorem ggX5_cross_X0_remember : GoodIn wsX5_cross wsX0_remember := goodIn_r _ [26, 27, 28, 29, 30, 31, 32, 33, 34, 25, 35, 62, 63, 64, 65, 66, 67, 68] (by decide +kernel) (by decide +kernel)
set_option maxRecDepth 20000 in
theorem gX5_cross_X0_remember : GoodIn wsX5_cross (wsV RX5 129 RX0 yX0_remember wsX0_remember) := goodIn_app (goodIn_of _ (by decide +kernel)) ggX5_cross_X0_remember
set_option maxRecDepth 20000 in
theorem ggX5_rest_X0_remember : GoodIn wsX5_rest wsX0_remember := goodIn_r _ [7, 8, 9, 10, 11, 12, 13, 14, 15, 6, 16, 28, 29, 30, 31, 32, 33, 34] (by decide +kernel) (by decide +kernel)
set_option maxRecDepth 20000 in
theorem gX5_rest_X0_remember : GoodIn wsX5_rest (wsV RX5 129 RX0 yX0_remember wsX0_remember) := goodIn_app (goodIn_of _ (by decide +kernel)) ggX5_rest_X0_remember
set_option maxRecDepth 20000 in
theorem ggX5_night_X0_draw : GoodIn wsX5_night wsX0_draw := goodIn_r _ [9, 10, 11, 54, 55, 56, 57, 58, 59, 60] (by decide +kernel) (by decide +kernel)
set_option maxRecDepth 20000 in
theorem gX5_night_X0_draw : GoodIn wsX5_night (wsV RX5 132 RX0 yX0_draw wsX0_draw) := goodIn_app (goodIn_of _ (by decide +kernel)) ggX5_night_X0_draw
set_option maxRecDepth 20000 in
theorem ggX5_night_X0_freeze : GoodIn wsX5_night wsX0_freeze := goodIn_r _ [15, 16, 17, 18, 19, 20, 54, 55, 56, 57, 58, 59, 60] (by decide +kernel) (by decide +kernel)
set_option maxRecDepth 20000 in
theorem gX5_night_X0_freeze : GoodIn wsX5_night (wsV RX5 139 RX0 yX0_freeze wsX0_freeze) := goodIn_app (goodIn_of _ (by decide +kernel)) ggX5_night_X0_freeze
set_option maxRecDepth 20000 in
theorem ggX5_night_X0_thaw : GoodIn wsX5_night wsX0_thaw := goodIn_r _ [24, 16, 25, 26, 19, 27, 54, 55, 56, 57, 58, 59, 60] (by decide +kernel) (by decide +kernel)
set_option maxRecDepth 20000 in
theorem gX5_night_X0_thaw : GoodIn wsX5_night (wsV RX5 142 RX0 yX0_thaw wsX0_thaw) := goodIn_app (goodIn_of _ (by decide +kernel)) ggX5_night_X0_thaw
set_option maxRecDepth 20000 in
theorem ggX5_slide_X3_has : GoodIn wsX5_slide wsX3_has := goodIn_r _ [10, 11, 61, 62, 63, 64, 65, 66, 67, 68, 69, 70, 71, 72, 73, 74, 75] (by decide +kernel) (by decide +kernel)
set_option maxRecDepth 20000 in
theorem gX5_slide_X3_has : GoodIn wsX5_slide (wsV RX5 78 RX3 yX3_has wsX3_has) := goodIn_app (goodIn_of _ (by decide +kernel)) ggX5_slide_X3_has
set_option maxRecDepth 20000 in
theorem ggX5_slide_X3_isSafe : GoodIn wsX5_slide wsX3_isSafe := goodIn_r _ [15, 16, 17, 18, 19, 20, 9, 21, 22, 23, 24, 61, 62, 63, 64, 65, 66, 67, 68, 69, 70, 71, 72, 73, 74, 75] (by decide +kernel) (by decide +kernel)
set_option maxRecDepth 20000 in
theorem gX5_slide_X3_isSafe : GoodIn wsX5_slide (wsV RX5 119 RX3 yX3_isSafe wsX3_isSafe) := goodIn_app (goodIn_of _ (by decide +kernel)) ggX5_slide_X3_isSafe
set_option maxRecDepth 20000 in
theorem ggX5_slide_X0_remember : GoodIn wsX5_slide wsX0_remember := goodIn_r _ [29, 30, 31, 32, 33, 34, 35, 36, 37, 28, 38, 54, 55, 56, 57, 58, 59, 60] (by decide +kernel) (by decide +kernel)
set_option maxRecDepth 20000 in
theorem gX5_slide_X0_remember : GoodIn wsX5_slide (wsV RX5 129 RX0 yX0_remember wsX0_remember) := goodIn_app (goodIn_of _ (by decide +kernel)) ggX5_slide_X0_remember
set_option maxRecDepth 20000 in
theorem ggX5_slide_X0_bankOf : GoodIn wsX5_slide wsX0_bankOf := goodIn_r _ [42, 32, 54, 55, 56, 57, 58, 59, 60] (by decide +kernel) (by decide +kernel)
set_option maxRecDepth 20000 in
theorem gX5_slide_X0_bankOf : GoodIn wsX5_slide (wsV RX5 82 RX0 yX0_bankOf wsX0_bankOf) := goodIn_app (goodIn_of _ (by decide +kernel)) ggX5_slide_X0_bankOf
set_option maxRecDepth 20000 in
theorem ggX5_undo_X0_recall : GoodIn wsX5_undo wsX0_recall := goodIn_r _ [7, 8, 9, 10, 11, 12, 24, 25, 26, 27, 28, 29, 30] (by decide +kernel) (by decide +kernel)
set_option maxRecDepth 20000 in
theorem gX5_undo_X0_recall : GoodIn wsX5_undo (wsV RX5 148 RX0 yX0_recall wsX0_recall) := goodIn_app (goodIn_of _ (by decide +kernel)) ggX5_undo_X0_recall
set_option maxRecDepth 20000 in
theorem ggX5_done_X1_explore : GoodIn wsX5_done wsX1_explore := goodIn_r _ [11, 12, 13, 14, 15, 16, 10, 17, 18, 19, 20, 21, 22, 23, 24, 25, 26, 27, 28, 29, 30, 31, 32, 33, 34, 35, 36, 37, 38, 39, 40, 41, 42, 43, 44, 45, 46, 47, 48, 49, 50, 51, 52, 53, 54, 107, 108, 109, 110, 111, 112, 92, 93, 94, 95, 96, 97, 98, 99, 100, 101, 102, 103, 104, 105, 106] (by decide +kernel) (by decide +kernel)
set_option maxRecDepth 20000 in
theorem gX5_done_X1_explore : GoodIn wsX5_done (wsV RX5 154 RX1 yX1_explore wsX1_explore) := goodIn_app (goodIn_of _ (by decide +kernel)) ggX5_done_X1_explore
set_option maxRecDepth 20000 in
theorem ggX5_done_X1_firstDone : GoodIn wsX5_done wsX1_firstDone := goodIn_r _ [58, 12, 18, 59, 60, 61, 29, 62, 63, 64, 107, 108, 109, 110, 111, 112, 92, 93, 94, 95, 96, 97, 98, 99, 100, 101, 102, 103, 104, 105, 106] (by decide +kernel) (by decide +kernel)
set_option maxRecDepth 20000 in
theorem gX5_done_X1_firstDone : GoodIn wsX5_done (wsV RX5 158 RX1 yX1_firstDone wsX1_firstDone) := goodIn_app (goodIn_of _ (by decide +kernel)) ggX5_done_X1_firstDone
set_option maxRecDepth 20000 in
theorem ggX5_done_X1_stepsTo : GoodIn wsX5_done wsX1_stepsTo := goodIn_r _ [68, 12, 21, 107, 108, 109, 110, 111, 112] (by decide +kernel) (by decide +kernel)
set_option maxRecDepth 20000 in
theorem gX5_done_X1_stepsTo : GoodIn wsX5_done (wsV RX5 162 RX1 yX1_stepsTo wsX1_stepsTo) := goodIn_app (goodIn_of _ (by decide +kernel)) ggX5_done_X1_stepsTo
set_option maxRecDepth 20000 in
theorem ggX5_done_X1_setOf : GoodIn wsX5_done wsX1_setOf := goodIn_r _ [72, 19, 20, 73, 66, 67, 10, 68, 12, 21, 107, 108, 109, 110, 111, 112] (by decide +kernel) (by decide +kernel)
set_option maxRecDepth 20000 in
theorem gX5_done_X1_setOf : GoodIn wsX5_done (wsV RX5 165 RX1 yX1_setOf wsX1_setOf) := goodIn_app (goodIn_of _ (by decide +kernel)) ggX5_done_X1_setOf
set_option maxRecDepth 20000 in
theorem ggX5_rent_X1_explore : GoodIn wsX5_rent wsX1_explore := goodIn_r _ [11, 12, 13, 14, 15, 16, 10, 17, 18, 19, 20, 21, 22, 23, 24, 25, 26, 27, 28, 29, 30, 31, 32, 33, 34, 35, 36, 37, 38, 39, 40, 41, 42, 43, 44, 45, 46, 47, 48, 49, 50, 51, 52, 53, 54, 117, 118, 119, 120, 121, 122, 102, 103, 104, 105, 106, 107, 108, 109, 110, 111, 112, 113, 114, 115, 116] (by decide +kernel) (by decide +kernel)
set_option maxRecDepth 20000 in
theorem gX5_rent_X1_explore : GoodIn wsX5_rent (wsV RX5 154 RX1 yX1_explore wsX1_explore) := goodIn_app (goodIn_of _ (by decide +kernel)) ggX5_rent_X1_explore
set_option maxRecDepth 20000 in
theorem ggX5_rent_X1_leastRent : GoodIn wsX5_rent wsX1_leastRent := goodIn_r _ [58, 12, 21, 18, 59, 60, 61, 29, 62, 63, 64, 65, 66, 67, 68, 69, 70, 117, 118, 119, 120, 121, 122, 102, 103, 104, 105, 106, 107, 108, 109, 110, 111, 112, 113, 114, 115, 116] (by decide +kernel) (by decide +kernel)
set_option maxRecDepth 20000 in
theorem gX5_rent_X1_leastRent : GoodIn wsX5_rent (wsV RX5 169 RX1 yX1_leastRent wsX1_leastRent) := goodIn_app (goodIn_of _ (by decide +kernel)) ggX5_rent_X1_leastRent
set_option maxRecDepth 20000 in
theorem ggX5_rent_X1_standingAt : GoodIn wsX5_rent wsX1_standingAt := goodIn_r _ [74, 12, 18, 117, 118, 119, 120, 121, 122] (by decide +kernel) (by decide +kernel)
set_option maxRecDepth 20000 in
theorem gX5_rent_X1_standingAt : GoodIn wsX5_rent (wsV RX5 172 RX1 yX1_standingAt wsX1_standingAt) := goodIn_app (goodIn_of _ (by decide +kernel)) ggX5_rent_X1_standingAt
set_option maxRecDepth 20000 in
theorem ggX5_rent_X3_rentOf : GoodIn wsX5_rent wsX3_rentOf := goodIn_r _ [62, 63, 64, 65, 66, 67, 29, 68, 69, 70, 102, 103, 104, 105, 106, 107, 108, 109, 110, 111, 112, 113, 114, 115, 116] (by decide +kernel) (by decide +kernel)
set_option maxRecDepth 20000 in
theorem gX5_rent_X3_rentOf : GoodIn wsX5_rent (wsV RX5 116 RX3 yX3_rentOf wsX3_rentOf) := goodIn_app (goodIn_of _ (by decide +kernel)) ggX5_rent_X3_rentOf
set_option maxRecDepth 20000 in
theorem ggX5_rent_X1_setOf : GoodIn wsX5_rent wsX1_setOf := goodIn_r _ [79, 19, 20, 80, 81, 82, 10, 83, 12, 21, 117, 118, 119, 120, 121, 122] (by decide +kernel) (by decide +kernel)
set_option maxRecDepth 20000 in
theorem gX5_rent_X1_setOf : GoodIn wsX5_rent (wsV RX5 165 RX1 yX1_setOf wsX1_setOf) := goodIn_app (goodIn_of _ (by decide +kernel)) ggX5_rent_X1_setOf
set_option maxRecDepth 20000 in
theorem ggX5_least_X5_crossingsTill : GoodIn wsX5_least wsX5_crossingsTill := goodIn_r _ [7, 8, 1, 9, 10, 11, 12, 13, 14, 15, 16, 17, 18, 19, 20, 21, 22, 23, 24, 25, 26, 27, 28, 29, 30, 31, 32, 33, 34, 35, 36, 37, 38, 39, 40, 41, 42, 43, 44, 45, 46, 47, 48, 49, 50, 51, 52, 53, 54, 55, 56, 57, 58, 59, 60, 61, 62, 63, 64, 65, 66, 67, 68, 69, 70, 71, 72, 73, 74, 75, 76, 77, 78, 79, 80, 81, 82, 83, 99, 100, 101, 102, 103, 104, 105, 106, 107, 108, 109, 110, 111, 84, 85, 86, 87, 88, 89, 90, 91, 92, 93, 94, 95, 96, 97, 98] (by decide +kernel) (by decide +kernel)
set_option maxRecDepth 20000 in
theorem gX5_least_X5_crossingsTill : GoodIn wsX5_least (wsV RX5 175 RX5 yX5_crossingsTill wsX5_crossingsTill) := goodIn_app (goodIn_of _ (by decide +kernel)) ggX5_least_X5_crossingsTill
set_option maxRecDepth 20000 in
theorem ggX5_sooner_X3_has : GoodIn wsX5_sooner wsX3_has := goodIn_r _ [9, 10, 91, 92, 93, 94, 95, 96, 97, 98, 99, 100, 101, 102, 103, 104, 105] (by decide +kernel) (by decide +kernel)
set_option maxRecDepth 20000 in
theorem gX5_sooner_X3_has : GoodIn wsX5_sooner (wsV RX5 78 RX3 yX3_has wsX3_has) := goodIn_app (goodIn_of _ (by decide +kernel)) ggX5_sooner_X3_has
set_option maxRecDepth 20000 in
theorem ggX5_sooner_X5_crossingsTill : GoodIn wsX5_sooner wsX5_crossingsTill := goodIn_r _ [15, 16, 1, 17, 18, 19, 20, 21, 22, 23, 24, 25, 26, 27, 28, 29, 30, 31, 32, 33, 34, 35, 36, 37, 38, 39, 40, 8, 41, 42, 43, 44, 45, 46, 47, 48, 49, 50, 51, 52, 53, 54, 55, 56, 57, 58, 59, 60, 61, 62, 63, 64, 65, 66, 67, 68, 69, 70, 71, 72, 73, 74, 75, 76, 77, 78, 79, 80, 81, 82, 83, 84, 85, 86, 87, 88, 89, 90, 106, 107, 108, 109, 110, 111, 112, 113, 114, 115, 116, 117, 118, 91, 92, 93, 94, 95, 96, 97, 98, 99, 100, 101, 102, 103, 104, 105] (by decide +kernel) (by decide +kernel)
set_option maxRecDepth 20000 in
theorem gX5_sooner_X5_crossingsTill : GoodIn wsX5_sooner (wsV RX5 175 RX5 yX5_crossingsTill wsX5_crossingsTill) := goodIn_app (goodIn_of _ (by decide +kernel)) ggX5_sooner_X5_crossingsTill
set_option maxRecDepth 20000 in
theorem ggX5_standings_X1_explore : GoodIn wsX5_standings wsX1_explore := goodIn_r _ [12, 13, 14, 15, 16, 17, 11, 18, 19, 20, 21, 22, 23, 24, 25, 26, 27, 28, 29, 30, 31, 32, 33, 34, 35, 36, 37, 38, 39, 40, 41, 42, 43, 44, 45, 46, 47, 48, 49, 50, 51, 52, 53, 54, 55, 89, 90, 91, 92, 93, 94, 74, 75, 76, 77, 78, 79, 80, 81, 82, 83, 84, 85, 86, 87, 88] (by decide +kernel) (by decide +kernel)
set_option maxRecDepth 20000 in
theorem gX5_standings_X1_explore : GoodIn wsX5_standings (wsV RX5 154 RX1 yX1_explore wsX1_explore) := goodIn_app (goodIn_of _ (by decide +kernel)) ggX5_standings_X1_explore
set_option maxRecDepth 20000 in
theorem ggX5_crossingsTill_X1_explore : GoodIn wsX5_crossingsTill wsX1_explore := goodIn_r _ [9, 10, 11, 12, 13, 14, 8, 15, 16, 17, 18, 19, 20, 21, 22, 23, 24, 25, 26, 27, 28, 29, 30, 31, 32, 33, 34, 35, 36, 37, 38, 39, 40, 41, 42, 43, 44, 45, 46, 47, 48, 49, 50, 51, 52, 85, 86, 87, 88, 89, 90, 91, 92, 93, 94, 95, 96, 97, 98, 99, 100, 101, 102, 103, 104, 105] (by decide +kernel) (by decide +kernel)
set_option maxRecDepth 20000 in
theorem gX5_crossingsTill_X1_explore : GoodIn wsX5_crossingsTill (wsV RX5 154 RX1 yX1_explore wsX1_explore) := goodIn_app (goodIn_of _ (by decide +kernel)) ggX5_crossingsTill_X1_explore
set_option maxRecDepth 20000 in
theorem ggX5_crossingsTill_X1_firstDone : GoodIn wsX5_crossingsTill wsX1_firstDone := goodIn_r _ [56, 10, 16, 57, 58, 59, 27, 60, 61, 62, 85, 86, 87, 88, 89, 90, 91, 92, 93, 94, 95, 96, 97, 98, 99, 100, 101, 102, 103, 104, 105] (by decide +kernel) (by decide +kernel)
set_option maxRecDepth 20000 in
theorem gX5_crossingsTill_X1_firstDone : GoodIn wsX5_crossingsTill (wsV RX5 158 RX1 yX1_firstDone wsX1_firstDone) := goodIn_app (goodIn_of _ (by decide +kernel)) ggX5_crossingsTill_X1_firstDone
set_option maxRecDepth 20000 in
theorem ggX5_crossingsTill_X1_stepsTo : GoodIn wsX5_crossingsTill wsX1_stepsTo := goodIn_r _ [66, 10, 19, 85, 86, 87, 88, 89, 90] (by decide +kernel) (by decide +kernel)
set_option maxRecDepth 20000 in
theorem gX5_crossingsTill_X1_stepsTo : GoodIn wsX5_crossingsTill (wsV RX5 162 RX1 yX1_stepsTo wsX1_stepsTo) := goodIn_app (goodIn_of _ (by decide +kernel)) ggX5_crossingsTill_X1_stepsTo
set_option maxRecDepth 20000 in
theorem ggX5_saw_X3_has : GoodIn wsX5_saw wsX3_has := goodIn_r _ [8, 9, 35, 36, 37, 38, 39, 40, 41, 42, 43, 44, 45, 46, 47, 48, 49] (by decide +kernel) (by decide +kernel)
set_option maxRecDepth 20000 in
theorem gX5_saw_X3_has : GoodIn wsX5_saw (wsV RX5 78 RX3 yX3_has wsX3_has) := goodIn_app (goodIn_of _ (by decide +kernel)) ggX5_saw_X3_has
set_option maxRecDepth 20000 in
theorem ggX5_saw_X4_add : GoodIn wsX5_saw wsX4_add := goodIn_r _ [14, 15, 16, 17, 18, 30, 31, 32, 33, 34] (by decide +kernel) (by decide +kernel)
set_option maxRecDepth 20000 in
theorem gX5_saw_X4_add : GoodIn wsX5_saw (wsV RX5 185 RX4 yX4_add wsX4_add) := goodIn_app (goodIn_of _ (by decide +kernel)) ggX5_saw_X4_add
set_option maxRecDepth 20000 in
theorem ggX5_forget_X4_dropAll : GoodIn wsX5_forget wsX4_dropAll := goodIn_r _ [7, 8, 20, 21, 22, 23, 24] (by decide +kernel) (by decide +kernel)
set_option maxRecDepth 20000 in
theorem gX5_forget_X4_dropAll : GoodIn wsX5_forget (wsV RX5 75 RX4 yX4_dropAll wsX4_dropAll) := goodIn_app (goodIn_of _ (by decide +kernel)) ggX5_forget_X4_dropAll
set_option maxRecDepth 20000 in
theorem ggX5_fits_X4_follow : GoodIn wsX5_fits wsX4_follow := goodIn_r _ [8, 9, 10, 11, 12, 13, 14, 15, 16, 17, 7, 18, 19, 20, 21, 22, 23, 24, 25, 26, 27, 28, 29, 30, 31, 32, 33, 34, 35, 36, 37, 38, 39, 40, 41, 42, 43, 44, 45, 46, 47, 48, 49, 50, 51, 52, 53, 54, 55, 56, 57, 89, 90, 91, 92, 93, 94, 95, 96, 97, 98, 99, 100, 101, 102, 103, 104, 105, 106, 107, 108] (by decide +kernel) (by decide +kernel)
set_option maxRecDepth 20000 in
theorem gX5_fits_X4_follow : GoodIn wsX5_fits (wsV RX5 191 RX4 yX4_follow wsX4_follow) := goodIn_app (goodIn_of _ (by decide +kernel)) ggX5_fits_X4_follow
set_option maxRecDepth 20000 in
theorem ggX5_fits_X4_waysOf : GoodIn wsX5_fits wsX4_waysOf := goodIn_r _ [61, 9, 89, 90, 91, 92, 93] (by decide +kernel) (by decide +kernel)
set_option maxRecDepth 20000 in
theorem gX5_fits_X4_waysOf : GoodIn wsX5_fits (wsV RX5 195 RX4 yX4_waysOf wsX4_waysOf) := goodIn_app (goodIn_of _ (by decide +kernel)) ggX5_fits_X4_waysOf
set_option maxRecDepth 20000 in
theorem ggX5_fits_X4_aboard : GoodIn wsX5_fits wsX4_aboard := goodIn_r _ [65, 66, 67, 68, 7, 69, 9, 70, 71, 72, 73, 27, 28, 74, 75, 76, 77, 29, 30, 31, 32, 33, 34, 35, 36, 37, 38, 39, 40, 41, 42, 43, 44, 45, 46, 47, 48, 49, 50, 51, 52, 53, 54, 55, 56, 57, 89, 90, 91, 92, 93, 94, 95, 96, 97, 98, 99, 100, 101, 102, 103, 104, 105, 106, 107, 108] (by decide +kernel) (by decide +kernel)
set_option maxRecDepth 20000 in
theorem gX5_fits_X4_aboard : GoodIn wsX5_fits (wsV RX5 199 RX4 yX4_aboard wsX4_aboard) := goodIn_app (goodIn_of _ (by decide +kernel)) ggX5_fits_X4_aboard
set_option maxRecDepth 20000 in
theorem ggX5_owed_X3_has : GoodIn wsX5_owed wsX3_has := goodIn_r _ [11, 12, 37, 38, 39, 40, 41, 42, 43, 44, 45, 46, 47, 48, 49, 50, 51] (by decide +kernel) (by decide +kernel)
set_option maxRecDepth 20000 in
theorem gX5_owed_X3_has : GoodIn wsX5_owed (wsV RX5 78 RX3 yX3_has wsX3_has) := goodIn_app (goodIn_of _ (by decide +kernel)) ggX5_owed_X3_has
set_option maxRecDepth 20000 in
theorem ggX5_owed_X3_wrongOf : GoodIn wsX5_owed wsX3_wrongOf := goodIn_r _ [16, 17, 18, 37, 38, 39, 40, 41, 42, 43, 44, 45, 46, 47, 48, 49, 50, 51] (by decide +kernel) (by decide +kernel)
set_option maxRecDepth 20000 in
theorem gX5_owed_X3_wrongOf : GoodIn wsX5_owed (wsV RX5 113 RX3 yX3_wrongOf wsX3_wrongOf) := goodIn_app (goodIn_of _ (by decide +kernel)) ggX5_owed_X3_wrongOf
set_option maxRecDepth 20000 in
theorem ggX5_mark_X3_has : GoodIn wsX5_mark wsX3_has := goodIn_r _ [7, 8, 63, 64, 65, 66, 67, 68, 69, 70, 71, 72, 73, 74, 75, 76, 77] (by decide +kernel) (by decide +kernel)
set_option maxRecDepth 20000 in
theorem gX5_mark_X3_has : GoodIn wsX5_mark (wsV RX5 78 RX3 yX3_has wsX3_has) := goodIn_app (goodIn_of _ (by decide +kernel)) ggX5_mark_X3_has
set_option maxRecDepth 20000 in
theorem ggX5_mark_X5_markThing : GoodIn wsX5_mark wsX5_markThing := goodIn_r _ [13, 14, 1, 15, 3, 4, 5, 6, 7, 8, 52, 53, 54, 55, 56, 57, 58, 59, 60, 61, 62, 63, 64, 65, 66, 67, 68, 69, 70, 71, 72, 73, 74, 75, 76, 77] (by decide +kernel) (by decide +kernel)
set_option maxRecDepth 20000 in
theorem gX5_mark_X5_markThing : GoodIn wsX5_mark (wsV RX5 205 RX5 yX5_markThing wsX5_markThing) := goodIn_app (goodIn_of _ (by decide +kernel)) ggX5_mark_X5_markThing
set_option maxRecDepth 20000 in
theorem ggX5_mark_X5_markCow : GoodIn wsX5_mark wsX5_markCow := goodIn_r _ [19, 14, 20, 1, 21, 9, 10, 11, 12, 13, 15, 3, 4, 5, 6, 7, 8, 52, 53, 54, 55, 56, 57, 58, 59, 60, 61, 62, 63, 64, 65, 66, 67, 68, 69, 70, 71, 72, 73, 74, 75, 76, 77] (by decide +kernel) (by decide +kernel)
set_option maxRecDepth 20000 in
theorem gX5_mark_X5_markCow : GoodIn wsX5_mark (wsV RX5 208 RX5 yX5_markCow wsX5_markCow) := goodIn_app (goodIn_of _ (by decide +kernel)) ggX5_mark_X5_markCow
set_option maxRecDepth 20000 in
theorem ggX5_mark_X5_markBride : GoodIn wsX5_mark wsX5_markBride := goodIn_r _ [25, 14, 26, 1, 27, 9, 10, 11, 12, 13, 15, 3, 4, 5, 6, 7, 8, 28, 29, 30, 31, 32, 33, 34, 52, 53, 54, 55, 56, 57, 58, 59, 60, 61, 62, 63, 64, 65, 66, 67, 68, 69, 70, 71, 72, 73, 74, 75, 76, 77] (by decide +kernel) (by decide +kernel)
set_option maxRecDepth 20000 in
theorem gX5_mark_X5_markBride : GoodIn wsX5_mark (wsV RX5 211 RX5 yX5_markBride wsX5_markBride) := goodIn_app (goodIn_of _ (by decide +kernel)) ggX5_mark_X5_markBride
set_option maxRecDepth 20000 in
theorem ggX5_mark_X5_markTwin : GoodIn wsX5_mark wsX5_markTwin := goodIn_r _ [38, 14, 39, 16, 17, 18, 12, 19, 20, 1, 21, 9, 10, 11, 13, 15, 3, 4, 5, 6, 7, 8, 52, 53, 54, 55, 56, 57, 58, 59, 60, 61, 62, 63, 64, 65, 66, 67, 68, 69, 70, 71, 72, 73, 74, 75, 76, 77] (by decide +kernel) (by decide +kernel)
set_option maxRecDepth 20000 in
theorem gX5_mark_X5_markTwin : GoodIn wsX5_mark (wsV RX5 214 RX5 yX5_markTwin wsX5_markTwin) := goodIn_app (goodIn_of _ (by decide +kernel)) ggX5_mark_X5_markTwin
set_option maxRecDepth 20000 in
theorem ggX5_mark_X5_markBishop : GoodIn wsX5_mark wsX5_markBishop := goodIn_r _ [43, 14, 44, 22, 23, 24, 12, 25, 26, 1, 27, 9, 10, 11, 13, 15, 3, 4, 5, 6, 7, 8, 28, 29, 30, 31, 32, 33, 34, 52, 53, 54, 55, 56, 57, 58, 59, 60, 61, 62, 63, 64, 65, 66, 67, 68, 69, 70, 71, 72, 73, 74, 75, 76, 77] (by decide +kernel) (by decide +kernel)
set_option maxRecDepth 20000 in
theorem gX5_mark_X5_markBishop : GoodIn wsX5_mark (wsV RX5 217 RX5 yX5_markBishop wsX5_markBishop) := goodIn_app (goodIn_of _ (by decide +kernel)) ggX5_mark_X5_markBishop
set_option maxRecDepth 20000 in
theorem ggX5_mark_X5_markBoot : GoodIn wsX5_mark wsX5_markBoot := goodIn_r _ [48, 14, 49, 50, 51, 9, 10, 11, 12, 13, 1, 15, 3, 4, 5, 6, 7, 8, 52, 53, 54, 55, 56, 57, 58, 59, 60, 61, 62, 78, 79, 80, 81, 82, 83, 84, 63, 64, 65, 66, 67, 68, 69, 70, 71, 72, 73, 74, 75, 76, 77] (by decide +kernel) (by decide +kernel)
set_option maxRecDepth 20000 in
theorem gX5_mark_X5_markBoot : GoodIn wsX5_mark (wsV RX5 220 RX5 yX5_markBoot wsX5_markBoot) := goodIn_app (goodIn_of _ (by decide +kernel)) ggX5_mark_X5_markBoot
set_option maxRecDepth 20000 in
theorem ggX5_markThing_X3_has : GoodIn wsX5_markThing wsX3_has := goodIn_r _ [8, 9, 21, 22, 23, 24, 25, 26, 27, 28, 29, 30, 31, 32, 33, 34, 35] (by decide +kernel) (by decide +kernel)
set_option maxRecDepth 20000 in
theorem gX5_markThing_X3_has : GoodIn wsX5_markThing (wsV RX5 78 RX3 yX3_has wsX3_has) := goodIn_app (goodIn_of _ (by decide +kernel)) ggX5_markThing_X3_has
set_option maxRecDepth 20000 in
theorem ggX5_markCow_X5_markThing : GoodIn wsX5_markCow wsX5_markThing := goodIn_r _ [9, 1, 3, 10, 11, 12, 13, 14, 15, 16, 17, 18, 19, 20, 21, 22, 23, 24, 25, 26, 27, 28, 29, 30, 31, 32, 33, 34, 35, 36, 37, 38, 39, 40, 41, 42] (by decide +kernel) (by decide +kernel)
set_option maxRecDepth 20000 in
theorem gX5_markCow_X5_markThing : GoodIn wsX5_markCow (wsV RX5 205 RX5 yX5_markThing wsX5_markThing) := goodIn_app (goodIn_of _ (by decide +kernel)) ggX5_markCow_X5_markThing
set_option maxRecDepth 20000 in
theorem ggX5_markCow_X3_has : GoodIn wsX5_markCow wsX3_has := goodIn_r _ [15, 16, 28, 29, 30, 31, 32, 33, 34, 35, 36, 37, 38, 39, 40, 41, 42] (by decide +kernel) (by decide +kernel)
set_option maxRecDepth 20000 in
theorem gX5_markCow_X3_has : GoodIn wsX5_markCow (wsV RX5 78 RX3 yX3_has wsX3_has) := goodIn_app (goodIn_of _ (by decide +kernel)) ggX5_markCow_X3_has
set_option maxRecDepth 20000 in
theorem ggX5_markBride_X5_markThing : GoodIn wsX5_markBride wsX5_markThing := goodIn_r _ [9, 1, 3, 10, 11, 12, 13, 14, 15, 16, 24, 25, 26, 27, 28, 29, 30, 31, 32, 33, 34, 35, 36, 37, 38, 39, 40, 41, 42, 43, 44, 45, 46, 47, 48, 49] (by decide +kernel) (by decide +kernel)
set_option maxRecDepth 20000 in
theorem gX5_markBride_X5_markThing : GoodIn wsX5_markBride (wsV RX5 205 RX5 yX5_markThing wsX5_markThing) := goodIn_app (goodIn_of _ (by decide +kernel)) ggX5_markBride_X5_markThing
set_option maxRecDepth 20000 in
theorem ggX5_markBride_X3_has : GoodIn wsX5_markBride wsX3_has := goodIn_r _ [15, 16, 35, 36, 37, 38, 39, 40, 41, 42, 43, 44, 45, 46, 47, 48, 49] (by decide +kernel) (by decide +kernel)
set_option maxRecDepth 20000 in
theorem gX5_markBride_X3_has : GoodIn wsX5_markBride (wsV RX5 78 RX3 yX3_has wsX3_has) := goodIn_app (goodIn_of _ (by decide +kernel)) ggX5_markBride_X3_has
set_option maxRecDepth 20000 in
theorem ggX5_markBride_J6_bitCount_0f7a4 : GoodIn wsX5_markBride wsJ6_bitCount_0f7a4 := goodIn_r _ [20, 21, 22, 23] (by decide +kernel) (by decide +kernel)
set_option maxRecDepth 20000 in
theorem gX5_markBride_J6_bitCount_0f7a4 : GoodIn wsX5_markBride (va_wsS RX5 225 yJ6_bitCount_0f7a4 wsJ6_bitCount_0f7a4) := goodIn_app (goodIn_of _ (by decide +kernel)) ggX5_markBride_J6_bitCount_0f7a4
set_option maxRecDepth 20000 in
theorem ggX5_markTwin_X5_markCow : GoodIn wsX5_markTwin wsX5_markCow := goodIn_r _ [7, 1, 8, 9, 10, 11, 12, 13, 6, 14, 15, 16, 17, 18, 19, 20, 21, 22, 23, 24, 25, 26, 27, 28, 29, 30, 31, 32, 33, 34, 35, 36, 37, 38, 39, 40, 41, 42, 43, 44, 45, 46, 47] (by decide +kernel) (by decide +kernel)
set_option maxRecDepth 20000 in
theorem gX5_markTwin_X5_markCow : GoodIn wsX5_markTwin (wsV RX5 208 RX5 yX5_markCow wsX5_markCow) := goodIn_app (goodIn_of _ (by decide +kernel)) ggX5_markTwin_X5_markCow
set_option maxRecDepth 20000 in
theorem ggX5_markBishop_X5_markBride : GoodIn wsX5_markBishop wsX5_markBride := goodIn_r _ [7, 1, 8, 9, 10, 11, 12, 13, 6, 14, 15, 16, 17, 18, 19, 20, 21, 22, 23, 24, 25, 26, 27, 28, 29, 30, 31, 32, 33, 34, 35, 36, 37, 38, 39, 40, 41, 42, 43, 44, 45, 46, 47, 48, 49, 50, 51, 52, 53, 54] (by decide +kernel) (by decide +kernel)
set_option maxRecDepth 20000 in
theorem gX5_markBishop_X5_markBride : GoodIn wsX5_markBishop (wsV RX5 211 RX5 yX5_markBride wsX5_markBride) := goodIn_app (goodIn_of _ (by decide +kernel)) ggX5_markBishop_X5_markBride
set_option maxRecDepth 20000 in
theorem ggX5_markBoot_X5_markThing : GoodIn wsX5_markBoot wsX5_markThing := goodIn_r _ [9, 1, 10, 11, 12, 13, 14, 15, 16, 17, 18, 19, 20, 21, 22, 23, 24, 25, 26, 27, 28, 36, 37, 38, 39, 40, 41, 42, 43, 44, 45, 46, 47, 48, 49, 50] (by decide +kernel) (by decide +kernel)
set_option maxRecDepth 20000 in
theorem gX5_markBoot_X5_markThing : GoodIn wsX5_markBoot (wsV RX5 205 RX5 yX5_markThing wsX5_markThing) := goodIn_app (goodIn_of _ (by decide +kernel)) ggX5_markBoot_X5_markThing
set_option maxRecDepth 20000 in
theorem ggX5_keep_X0_becomeLike : GoodIn wsX5_keep wsX0_becomeLike := goodIn_r _ [9, 10, 11, 12, 13, 14, 15, 16, 28, 29, 30, 31, 32, 33, 34] (by decide +kernel) (by decide +kernel)
set_option maxRecDepth 20000 in
theorem gX5_keep_X0_becomeLike : GoodIn wsX5_keep (wsV RX5 236 RX0 yX0_becomeLike wsX0_becomeLike) := goodIn_app (goodIn_of _ (by decide +kernel)) ggX5_keep_X0_becomeLike
set_option maxRecDepth 20000 in
theorem ggX5_back_X0_becomeLike : GoodIn wsX5_back wsX0_becomeLike := goodIn_r _ [9, 10, 11, 12, 13, 14, 15, 16, 28, 29, 30, 31, 32, 33, 34] (by decide +kernel) (by decide +kernel)
set_option maxRecDepth 20000 in
theorem gX5_back_X0_becomeLike : GoodIn wsX5_back (wsV RX5 236 RX0 yX0_becomeLike wsX0_becomeLike) := goodIn_app (goodIn_of _ (by decide +kernel)) ggX5_back_X0_becomeLike
set_option maxRecDepth 20000 in
theorem ggX6_isThing_X6_in : GoodIn wsX6_isThing wsX6_in := goodIn_r _ [5] (by decide +kernel) (by decide +kernel)
set_option maxRecDepth 20000 in
theorem gX6_isThing_X6_in : GoodIn wsX6_isThing (va_wsS RX6 85 yX6_in wsX6_in) := goodIn_app (goodIn_of _ (by decide +kernel)) ggX6_isThing_X6_in
set_option maxRecDepth 20000 in
theorem ggX6_type_X6_in : GoodIn wsX6_type wsX6_in := goodIn_r _ [8] (by decide +kernel) (by decide +kernel)
set_option maxRecDepth 20000 in
theorem gX6_type_X6_in : GoodIn wsX6_type (va_wsS RX6 85 yX6_in wsX6_in) := goodIn_app (goodIn_of _ (by decide +kernel)) ggX6_type_X6_in
set_option maxRecDepth 20000 in
theorem ggX6_next_X6_isLetter : GoodIn wsX6_next wsX6_isLetter := goodIn_r _ [16] (by decide +kernel) (by decide +kernel)
set_option maxRecDepth 20000 in
theorem gX6_next_X6_isLetter : GoodIn wsX6_next (va_wsS RX6 106 yX6_isLetter wsX6_isLetter) := goodIn_app (goodIn_of _ (by decide +kernel)) ggX6_next_X6_isLetter
set_option maxRecDepth 20000 in
theorem ggX6_next_X6_isFigure : GoodIn wsX6_next wsX6_isFigure := goodIn_r _ [19] (by decide +kernel) (by decide +kernel)
set_option maxRecDepth 20000 in
theorem gX6_next_X6_isFigure : GoodIn wsX6_next (va_wsS RX6 110 yX6_isFigure wsX6_isFigure) := goodIn_app (goodIn_of _ (by decide +kernel)) ggX6_next_X6_isFigure
set_option maxRecDepth 20000 in
theorem ggX6_takes_X6_next : GoodIn wsX6_takes wsX6_next := goodIn_r _ [7, 8, 9, 10, 11, 2, 1, 12, 13, 14, 15, 16, 17, 18, 19, 6, 20, 21, 22, 23, 27, 28, 29, 30, 31, 32, 33, 34, 35, 36, 37, 38, 39, 40, 41, 42, 43, 44, 45, 46, 47, 48, 49, 50, 51, 52, 53, 54, 55, 56, 57, 58, 59, 60, 61, 62, 63, 64, 65] (by decide +kernel) (by decide +kernel)
set_option maxRecDepth 20000 in
theorem gX6_takes_X6_next : GoodIn wsX6_takes (wsV RX6 128 RX6 yX6_next wsX6_next) := goodIn_app (goodIn_of _ (by decide +kernel)) ggX6_takes_X6_next
set_option maxRecDepth 20000 in
theorem ggX6_takes_X6_in : GoodIn wsX6_takes wsX6_in := goodIn_r _ [26] (by decide +kernel) (by decide +kernel)
set_option maxRecDepth 20000 in
theorem gX6_takes_X6_in : GoodIn wsX6_takes (va_wsS RX6 85 yX6_in wsX6_in) := goodIn_app (goodIn_of _ (by decide +kernel)) ggX6_takes_X6_in
set_option maxRecDepth 20000 in
theorem ggX6_stops_X6_next : GoodIn wsX6_stops wsX6_next := goodIn_r _ [6, 7, 8, 9, 10, 11, 1, 12, 13, 14, 15, 16, 17, 18, 19, 5, 20, 21, 22, 23, 24, 25, 26, 27, 28, 29, 30, 31, 32, 33, 34, 35, 36, 37, 38, 39, 40, 41, 42, 43, 44, 45, 46, 47, 48, 49, 50, 51, 52, 53, 54, 55, 56, 57, 58, 59, 60, 61, 62] (by decide +kernel) (by decide +kernel)
set_option maxRecDepth 20000 in
theorem gX6_stops_X6_next : GoodIn wsX6_stops (wsV RX6 128 RX6 yX6_next wsX6_next) := goodIn_app (goodIn_of _ (by decide +kernel)) ggX6_stops_X6_next
set_option maxRecDepth 20000 in
theorem ggX6_takesThing_X6_takes : GoodIn wsX6_takesThing wsX6_takes := goodIn_r _ [9, 10, 3, 11, 12, 13, 8, 14, 15, 16, 17, 18, 19, 20, 21, 22, 23, 24, 25, 26, 27, 28, 29, 30, 31, 32, 33, 38, 39, 40, 41, 42, 43, 44, 45, 46, 47, 48, 49, 50, 51, 52, 53, 54, 55, 56, 57, 58, 59, 60, 61, 62, 63, 64, 65, 66, 67, 68, 69, 70, 71, 72, 73, 74, 75, 76] (by decide +kernel) (by decide +kernel)
set_option maxRecDepth 20000 in
theorem gX6_takesThing_X6_takes : GoodIn wsX6_takesThing (wsV RX6 134 RX6 yX6_takes wsX6_takes) := goodIn_app (goodIn_of _ (by decide +kernel)) ggX6_takesThing_X6_takes
set_option maxRecDepth 20000 in
theorem ggX6_takesThing_X6_stops : GoodIn wsX6_takesThing wsX6_stops := goodIn_r _ [37, 10, 11, 12, 13, 8, 14, 15, 16, 17, 18, 3, 19, 20, 21, 22, 23, 24, 25, 26, 27, 28, 29, 30, 38, 39, 40, 41, 42, 43, 44, 45, 46, 47, 48, 49, 50, 51, 52, 53, 54, 55, 56, 57, 58, 59, 60, 61, 62, 63, 64, 65, 66, 67, 68, 69, 70, 71, 72, 73, 74, 75, 76] (by decide +kernel) (by decide +kernel)
set_option maxRecDepth 20000 in
theorem gX6_takesThing_X6_stops : GoodIn wsX6_takesThing (wsV RX6 138 RX6 yX6_stops wsX6_stops) := goodIn_app (goodIn_of _ (by decide +kernel)) ggX6_takesThing_X6_stops
set_option maxRecDepth 20000 in
theorem ggX6_takesFears_X6_takes : GoodIn wsX6_takesFears wsX6_takes := goodIn_r _ [9, 10, 3, 11, 12, 13, 8, 14, 15, 16, 17, 18, 19, 20, 21, 22, 23, 24, 25, 26, 27, 28, 29, 30, 31, 32, 33, 38, 39, 40, 41, 42, 43, 44, 45, 46, 47, 48, 49, 50, 51, 52, 53, 54, 55, 56, 57, 58, 59, 60, 61, 62, 63, 64, 65, 66, 67, 68, 69, 70, 71, 72, 73, 74, 75, 76] (by decide +kernel) (by decide +kernel)
set_option maxRecDepth 20000 in
theorem gX6_takesFears_X6_takes : GoodIn wsX6_takesFears (wsV RX6 134 RX6 yX6_takes wsX6_takes) := goodIn_app (goodIn_of _ (by decide +kernel)) ggX6_takesFears_X6_takes
set_option maxRecDepth 20000 in
theorem ggX6_takesFears_X6_stops : GoodIn wsX6_takesFears wsX6_stops := goodIn_r _ [37, 10, 11, 12, 13, 8, 14, 15, 16, 17, 18, 3, 19, 20, 21, 22, 23, 24, 25, 26, 27, 28, 29, 30, 38, 39, 40, 41, 42, 43, 44, 45, 46, 47, 48, 49, 50, 51, 52, 53, 54, 55, 56, 57, 58, 59, 60, 61, 62, 63, 64, 65, 66, 67, 68, 69, 70, 71, 72, 73, 74, 75, 76] (by decide +kernel) (by decide +kernel)
set_option maxRecDepth 20000 in
theorem gX6_takesFears_X6_stops : GoodIn wsX6_takesFears (wsV RX6 138 RX6 yX6_stops wsX6_stops) := goodIn_app (goodIn_of _ (by decide +kernel)) ggX6_takesFears_X6_stops
set_option maxRecDepth 20000 in
theorem ggX6_takesTold_X6_takes : GoodIn wsX6_takesTold wsX6_takes := goodIn_r _ [7, 8, 2, 9, 10, 11, 6, 12, 13, 14, 15, 16, 17, 18, 19, 20, 21, 22, 23, 24, 25, 26, 27, 28, 29, 30, 31, 36, 37, 38, 39, 40, 41, 42, 43, 44, 45, 46, 47, 48, 49, 50, 51, 52, 53, 54, 55, 56, 57, 58, 59, 60, 61, 62, 63, 64, 65, 66, 67, 68, 69, 70, 71, 72, 73, 74] (by decide +kernel) (by decide +kernel)
set_option maxRecDepth 20000 in
theorem gX6_takesTold_X6_takes : GoodIn wsX6_takesTold (wsV RX6 134 RX6 yX6_takes wsX6_takes) := goodIn_app (goodIn_of _ (by decide +kernel)) ggX6_takesTold_X6_takes
set_option maxRecDepth 20000 in
theorem ggX6_takesTold_X6_stops : GoodIn wsX6_takesTold wsX6_stops := goodIn_r _ [35, 8, 9, 10, 11, 6, 12, 13, 14, 15, 16, 2, 17, 18, 19, 20, 21, 22, 23, 24, 25, 26, 27, 28, 36, 37, 38, 39, 40, 41, 42, 43, 44, 45, 46, 47, 48, 49, 50, 51, 52, 53, 54, 55, 56, 57, 58, 59, 60, 61, 62, 63, 64, 65, 66, 67, 68, 69, 70, 71, 72, 73, 74] (by decide +kernel) (by decide +kernel)
set_option maxRecDepth 20000 in
theorem gX6_takesTold_X6_stops : GoodIn wsX6_takesTold (wsV RX6 138 RX6 yX6_stops wsX6_stops) := goodIn_app (goodIn_of _ (by decide +kernel)) ggX6_takesTold_X6_stops
set_option maxRecDepth 20000 in
theorem ggX6_takesAll_X6_next : GoodIn wsX6_takesAll wsX6_next := goodIn_r _ [17, 1, 18, 19, 20, 6, 5, 21, 22, 23, 24, 25, 26, 27, 28, 16, 29, 30, 31, 32, 58, 59, 60, 61, 62, 63, 64, 65, 66, 67, 68, 69, 70, 71, 72, 73, 74, 75, 76, 77, 78, 79, 80, 81, 82, 83, 84, 85, 86, 87, 88, 89, 90, 91, 92, 93, 94, 95, 96] (by decide +kernel) (by decide +kernel)
set_option maxRecDepth 20000 in
theorem gX6_takesAll_X6_next : GoodIn wsX6_takesAll (wsV RX6 128 RX6 yX6_next wsX6_next) := goodIn_app (goodIn_of _ (by decide +kernel)) ggX6_takesAll_X6_next
set_option maxRecDepth 20000 in
theorem ggX6_takesAll_X6_takesThing : GoodIn wsX6_takesAll wsX6_takesThing := goodIn_r _ [36, 2, 37, 6, 38, 39, 40, 41, 16, 42, 5, 13, 14, 15, 17, 1, 18, 19, 20, 21, 22, 23, 24, 25, 26, 27, 28, 29, 30, 31, 32, 43, 44, 45, 46, 47, 48, 49, 58, 59, 60, 61, 62, 63, 64, 65, 66, 67, 68, 69, 70, 71, 72, 73, 74, 75, 76, 77, 78, 79, 80, 81, 82, 83, 84, 85, 86, 87, 88, 89, 90, 91, 92, 93, 94, 95, 96] (by decide +kernel) (by decide +kernel)
set_option maxRecDepth 20000 in
theorem gX6_takesAll_X6_takesThing : GoodIn wsX6_takesAll (wsV RX6 147 RX6 yX6_takesThing wsX6_takesThing) := goodIn_app (goodIn_of _ (by decide +kernel)) ggX6_takesAll_X6_takesThing
set_option maxRecDepth 20000 in
theorem ggX6_takesAll_X6_takesFears : GoodIn wsX6_takesAll wsX6_takesFears := goodIn_r _ [53, 3, 2, 6, 38, 39, 40, 41, 16, 42, 5, 13, 14, 15, 17, 1, 18, 19, 20, 21, 22, 23, 24, 25, 26, 27, 28, 29, 30, 31, 32, 43, 44, 45, 46, 47, 48, 49, 58, 59, 60, 61, 62, 63, 64, 65, 66, 67, 68, 69, 70, 71, 72, 73, 74, 75, 76, 77, 78, 79, 80, 81, 82, 83, 84, 85, 86, 87, 88, 89, 90, 91, 92, 93, 94, 95, 96] (by decide +kernel) (by decide +kernel)
set_option maxRecDepth 20000 in
theorem gX6_takesAll_X6_takesFears : GoodIn wsX6_takesAll (wsV RX6 152 RX6 yX6_takesFears wsX6_takesFears) := goodIn_app (goodIn_of _ (by decide +kernel)) ggX6_takesAll_X6_takesFears
set_option maxRecDepth 20000 in
theorem ggX6_takesAll_X6_takesTold : GoodIn wsX6_takesAll wsX6_takesTold := goodIn_r _ [57, 4, 6, 39, 40, 41, 16, 42, 5, 13, 14, 15, 17, 1, 18, 19, 20, 21, 22, 23, 24, 25, 26, 27, 28, 29, 30, 31, 32, 43, 44, 45, 46, 47, 48, 49, 58, 59, 60, 61, 62, 63, 64, 65, 66, 67, 68, 69, 70, 71, 72, 73, 74, 75, 76, 77, 78, 79, 80, 81, 82, 83, 84, 85, 86, 87, 88, 89, 90, 91, 92, 93, 94, 95, 96] (by decide +kernel) (by decide +kernel)
set_option maxRecDepth 20000 in
theorem gX6_takesAll_X6_takesTold : GoodIn wsX6_takesAll (wsV RX6 157 RX6 yX6_takesTold wsX6_takesTold) := goodIn_app (goodIn_of _ (by decide +kernel)) ggX6_takesAll_X6_takesTold
set_option maxRecDepth 20000 in
theorem ggX6_river_X6_takesAll : GoodIn wsX6_river wsX6_takesAll := goodIn_r _ [27, 28, 2, 4, 6, 29, 30, 31, 32, 33, 34, 35, 36, 37, 38, 39, 26, 40, 22, 41, 1, 42, 43, 44, 45, 46, 47, 48, 49, 50, 51, 52, 53, 54, 55, 56, 57, 8, 13, 58, 59, 60, 61, 62, 63, 64, 65, 66, 67, 68, 69, 70, 71, 72, 73, 74, 75, 76, 80, 81, 82, 83, 84, 85, 86, 87, 88, 89, 90, 91, 92, 93, 94, 95, 96, 97, 98, 99, 100, 101, 102, 103, 104, 105, 106, 107, 108, 109, 110, 111, 112, 113, 114, 115, 116, 117, 118] (by decide +kernel) (by decide +kernel)
set_option maxRecDepth 20000 in
theorem gX6_river_X6_takesAll : GoodIn wsX6_river (wsV RX6 166 RX6 yX6_takesAll wsX6_takesAll) := goodIn_app (goodIn_of _ (by decide +kernel)) ggX6_river_X6_takesAll
set_option maxRecDepth 20000 in
theorem ggX6_river_X6_or : GoodIn wsX6_river wsX6_or := goodIn_r _ [79] (by decide +kernel) (by decide +kernel)
set_option maxRecDepth 20000 in
theorem gX6_river_X6_or : GoodIn wsX6_river (va_wsS RX6 173 yX6_or wsX6_or) := goodIn_app (goodIn_of _ (by decide +kernel)) ggX6_river_X6_or
set_option maxRecDepth 20000 in
theorem ggX6_there_X6_ferryOf : GoodIn wsX6_there wsX6_ferryOf := goodIn_r _ [5] (by decide +kernel) (by decide +kernel)
set_option maxRecDepth 20000 in
theorem gX6_there_X6_ferryOf : GoodIn wsX6_there (va_wsS RX6 192 yX6_ferryOf wsX6_ferryOf) := goodIn_app (goodIn_of _ (by decide +kernel)) ggX6_there_X6_ferryOf
set_option maxRecDepth 20000 in
theorem ggX6_isSafe_X6_there : GoodIn wsX6_isSafe wsX6_there := goodIn_r _ [7, 1, 8, 9, 6, 10, 14, 15, 16, 17, 18, 19, 20, 21, 22, 23, 24, 25, 26, 27, 28, 29, 30, 31, 32, 33, 34, 35, 36, 37, 38, 39, 40, 41, 42, 43, 44, 45, 46, 47, 48, 49, 50, 51, 52] (by decide +kernel) (by decide +kernel)
set_option maxRecDepth 20000 in
theorem gX6_isSafe_X6_there : GoodIn wsX6_isSafe (wsV RX6 196 RX6 yX6_there wsX6_there) := goodIn_app (goodIn_of _ (by decide +kernel)) ggX6_isSafe_X6_there
set_option maxRecDepth 20000 in
theorem ggX6_isSafe_X6_has : GoodIn wsX6_isSafe wsX6_has := goodIn_r _ [13] (by decide +kernel) (by decide +kernel)
set_option maxRecDepth 20000 in
theorem gX6_isSafe_X6_has : GoodIn wsX6_isSafe (va_wsS RX6 199 yX6_has wsX6_has) := goodIn_app (goodIn_of _ (by decide +kernel)) ggX6_isSafe_X6_has
set_option maxRecDepth 20000 in
theorem ggX6_rentOf_X6_wrongOf : GoodIn wsX6_rentOf wsX6_wrongOf := goodIn_r _ [7, 1, 8, 12, 13, 14, 15, 16, 17, 18, 19, 20, 21, 22, 23, 24, 25, 26, 27, 28, 29, 30, 31, 32, 33, 34, 35, 36, 37, 38, 39, 40, 41, 42, 43, 44, 45, 46, 47, 48, 49, 50] (by decide +kernel) (by decide +kernel)
set_option maxRecDepth 20000 in
theorem gX6_rentOf_X6_wrongOf : GoodIn wsX6_rentOf (wsV RX6 202 RX6 yX6_wrongOf wsX6_wrongOf) := goodIn_app (goodIn_of _ (by decide +kernel)) ggX6_rentOf_X6_wrongOf
set_option maxRecDepth 20000 in
theorem ggX6_rentOf_X6_has : GoodIn wsX6_rentOf wsX6_has := goodIn_r _ [11] (by decide +kernel) (by decide +kernel)
set_option maxRecDepth 20000 in
theorem gX6_rentOf_X6_has : GoodIn wsX6_rentOf (va_wsS RX6 199 yX6_has wsX6_has) := goodIn_app (goodIn_of _ (by decide +kernel)) ggX6_rentOf_X6_has
set_option maxRecDepth 20000 in
theorem ggX6_weightOf_X6_has : GoodIn wsX6_weightOf wsX6_has := goodIn_r _ [6] (by decide +kernel) (by decide +kernel)
set_option maxRecDepth 20000 in
theorem gX6_weightOf_X6_has : GoodIn wsX6_weightOf (va_wsS RX6 199 yX6_has wsX6_has) := goodIn_app (goodIn_of _ (by decide +kernel)) ggX6_weightOf_X6_has
set_option maxRecDepth 20000 in
theorem ggX6_crosses_X6_there : GoodIn wsX6_crosses wsX6_there := goodIn_r _ [5, 6, 7, 8, 4, 9, 23, 24, 25, 26, 27, 28, 29, 30, 31, 32, 33, 34, 35, 36, 37, 38, 39, 40, 41, 42, 43, 44, 45, 46, 47, 48, 49, 50, 51, 52, 53, 54, 55, 56, 57, 58, 59, 60, 61] (by decide +kernel) (by decide +kernel)
set_option maxRecDepth 20000 in
theorem gX6_crosses_X6_there : GoodIn wsX6_crosses (wsV RX6 196 RX6 yX6_there wsX6_there) := goodIn_app (goodIn_of _ (by decide +kernel)) ggX6_crosses_X6_there
set_option maxRecDepth 20000 in
theorem ggX6_crosses_X6_weightOf : GoodIn wsX6_crosses wsX6_weightOf := goodIn_r _ [13, 6, 14, 15, 16, 4, 17, 23, 24, 25, 26, 27, 28, 29, 30, 31, 32, 33, 34, 35, 36, 37, 38, 39, 40, 41, 42, 43, 44, 45, 46, 47, 48, 49, 50, 51, 52, 53, 54, 55, 56, 57, 58, 59, 60, 61] (by decide +kernel) (by decide +kernel)
set_option maxRecDepth 20000 in
theorem gX6_crosses_X6_weightOf : GoodIn wsX6_crosses (wsV RX6 205 RX6 yX6_weightOf wsX6_weightOf) := goodIn_app (goodIn_of _ (by decide +kernel)) ggX6_crosses_X6_weightOf
set_option maxRecDepth 20000 in
theorem ggX6_crosses_X6_isSafe : GoodIn wsX6_crosses wsX6_isSafe := goodIn_r _ [21, 6, 22, 1, 2, 3, 4, 5, 7, 8, 9, 15, 16, 17, 23, 24, 25, 26, 27, 28, 29, 30, 31, 32, 33, 34, 35, 36, 37, 38, 39, 40, 41, 42, 43, 44, 45, 46, 47, 48, 49, 50, 51, 52, 53, 54, 55, 56, 57, 58, 59, 60, 61] (by decide +kernel) (by decide +kernel)
set_option maxRecDepth 20000 in
theorem gX6_crosses_X6_isSafe : GoodIn wsX6_crosses (wsV RX6 208 RX6 yX6_isSafe wsX6_isSafe) := goodIn_app (goodIn_of _ (by decide +kernel)) ggX6_crosses_X6_isSafe
set_option maxRecDepth 20000 in
theorem ggX6_thing_X6_isThing : GoodIn wsX6_thing wsX6_isThing := goodIn_r _ [11, 12, 13, 14, 10, 15, 16, 17, 18, 19, 20, 21, 22, 23, 24, 25, 26, 27, 28, 29, 30, 31, 32, 33, 34, 35, 36, 37, 38, 39, 40, 41, 42, 43, 44, 45, 46, 47, 48, 49, 50, 51, 52, 53, 54] (by decide +kernel) (by decide +kernel)
set_option maxRecDepth 20000 in
theorem gX6_thing_X6_isThing : GoodIn wsX6_thing (wsV RX6 211 RX6 yX6_isThing wsX6_isThing) := goodIn_app (goodIn_of _ (by decide +kernel)) ggX6_thing_X6_isThing
set_option maxRecDepth 20000 in
theorem ggX6_thing_X6_in : GoodIn wsX6_thing wsX6_in := goodIn_r _ [15] (by decide +kernel) (by decide +kernel)
set_option maxRecDepth 20000 in
theorem gX6_thing_X6_in : GoodIn wsX6_thing (va_wsS RX6 85 yX6_in wsX6_in) := goodIn_app (goodIn_of _ (by decide +kernel)) ggX6_thing_X6_in
set_option maxRecDepth 20000 in
theorem ggX6_now_X6_ferryOf : GoodIn wsX6_now wsX6_ferryOf := goodIn_r _ [8] (by decide +kernel) (by decide +kernel)
set_option maxRecDepth 20000 in
theorem gX6_now_X6_ferryOf : GoodIn wsX6_now (va_wsS RX6 192 yX6_ferryOf wsX6_ferryOf) := goodIn_app (goodIn_of _ (by decide +kernel)) ggX6_now_X6_ferryOf
set_option maxRecDepth 20000 in
theorem ggX6_now_X6_wrongOf : GoodIn wsX6_now wsX6_wrongOf := goodIn_r _ [12, 13, 14, 32, 33, 34, 35, 36, 37, 38, 39, 40, 41, 42, 43, 44, 45, 46, 47, 48, 49, 50, 51, 52, 53, 54, 55, 56, 57, 58, 59, 60, 61, 62, 63, 64, 65, 66, 67, 68, 69, 70] (by decide +kernel) (by decide +kernel)
set_option maxRecDepth 20000 in
theorem gX6_now_X6_wrongOf : GoodIn wsX6_now (wsV RX6 202 RX6 yX6_wrongOf wsX6_wrongOf) := goodIn_app (goodIn_of _ (by decide +kernel)) ggX6_now_X6_wrongOf
set_option maxRecDepth 20000 in
theorem ggX6_now_X6_rentOf : GoodIn wsX6_now wsX6_rentOf := goodIn_r _ [18, 13, 19, 9, 10, 11, 7, 12, 14, 20, 21, 22, 32, 33, 34, 35, 36, 37, 38, 39, 40, 41, 42, 43, 44, 45, 46, 47, 48, 49, 50, 51, 52, 53, 54, 55, 56, 57, 58, 59, 60, 61, 62, 63, 64, 65, 66, 67, 68, 69, 70] (by decide +kernel) (by decide +kernel)
set_option maxRecDepth 20000 in
theorem gX6_now_X6_rentOf : GoodIn wsX6_now (wsV RX6 216 RX6 yX6_rentOf wsX6_rentOf) := goodIn_app (goodIn_of _ (by decide +kernel)) ggX6_now_X6_rentOf
set_option maxRecDepth 20000 in
theorem ggX6_now_X6_isSafe : GoodIn wsX6_now wsX6_isSafe := goodIn_r _ [26, 13, 27, 28, 29, 30, 7, 31, 5, 6, 8, 20, 21, 22, 32, 33, 34, 35, 36, 37, 38, 39, 40, 41, 42, 43, 44, 45, 46, 47, 48, 49, 50, 51, 52, 53, 54, 55, 56, 57, 58, 59, 60, 61, 62, 63, 64, 65, 66, 67, 68, 69, 70] (by decide +kernel) (by decide +kernel)
set_option maxRecDepth 20000 in
theorem gX6_now_X6_isSafe : GoodIn wsX6_now (wsV RX6 208 RX6 yX6_isSafe wsX6_isSafe) := goodIn_app (goodIn_of _ (by decide +kernel)) ggX6_now_X6_isSafe
set_option maxRecDepth 20000 in
theorem ggX6_cross_X6_in : GoodIn wsX6_cross wsX6_in := goodIn_r _ [8] (by decide +kernel) (by decide +kernel)
set_option maxRecDepth 20000 in
theorem gX6_cross_X6_in : GoodIn wsX6_cross (va_wsS RX6 85 yX6_in wsX6_in) := goodIn_app (goodIn_of _ (by decide +kernel)) ggX6_cross_X6_in
set_option maxRecDepth 20000 in
theorem ggX6_cross_X6_crosses : GoodIn wsX6_cross wsX6_crosses := goodIn_r _ [12, 13, 14, 15, 7, 16, 1, 17, 18, 19, 20, 21, 22, 23, 24, 25, 26, 27, 28, 29, 30, 31, 32, 39, 40, 41, 42, 43, 44, 45, 46, 47, 48, 49, 50, 51, 52, 53, 54, 55, 56, 57, 58, 59, 60, 61, 62, 63, 64, 65, 66, 67, 68, 69, 70, 71, 72, 73, 74, 75, 76, 77] (by decide +kernel) (by decide +kernel)
set_option maxRecDepth 20000 in
theorem gX6_cross_X6_crosses : GoodIn wsX6_cross (wsV RX6 219 RX6 yX6_crosses wsX6_crosses) := goodIn_app (goodIn_of _ (by decide +kernel)) ggX6_cross_X6_crosses
set_option maxRecDepth 20000 in
theorem ggX6_cross_X6_remember : GoodIn wsX6_cross wsX6_remember := goodIn_r _ [36, 37, 38, 2, 4, 39, 40, 41, 42, 43, 44, 45, 46, 47, 48, 49, 50, 51, 52, 53, 54, 55, 56, 57, 58, 59, 60, 61, 62, 63, 64, 65, 66, 67, 68, 69, 70, 71, 72, 73, 74, 75, 76, 77] (by decide +kernel) (by decide +kernel)
set_option maxRecDepth 20000 in
theorem gX6_cross_X6_remember : GoodIn wsX6_cross (wsV RX6 223 RX6 yX6_remember wsX6_remember) := goodIn_app (goodIn_of _ (by decide +kernel)) ggX6_cross_X6_remember
set_option maxRecDepth 20000 in
theorem ggX6_rest_X6_remember : GoodIn wsX6_rest wsX6_remember := goodIn_r _ [6, 7, 8, 9, 1, 10, 11, 12, 13, 14, 15, 16, 17, 18, 19, 20, 21, 22, 23, 24, 25, 26, 27, 28, 29, 30, 31, 32, 33, 34, 35, 36, 37, 38, 39, 40, 41, 42, 43, 44, 45, 46, 47, 48] (by decide +kernel) (by decide +kernel)
set_option maxRecDepth 20000 in
theorem gX6_rest_X6_remember : GoodIn wsX6_rest (wsV RX6 223 RX6 yX6_remember wsX6_remember) := goodIn_app (goodIn_of _ (by decide +kernel)) ggX6_rest_X6_remember
set_option maxRecDepth 20000 in
theorem ggX6_slide_X6_isThing : GoodIn wsX6_slide wsX6_isThing := goodIn_r _ [8, 9, 10, 11, 7, 12, 35, 36, 37, 38, 39, 40, 41, 42, 43, 44, 45, 46, 47, 48, 49, 50, 51, 52, 53, 54, 55, 56, 57, 58, 59, 60, 61, 62, 63, 64, 65, 66, 67, 68, 69, 70, 71, 72, 73] (by decide +kernel) (by decide +kernel)
set_option maxRecDepth 20000 in
theorem gX6_slide_X6_isThing : GoodIn wsX6_slide (wsV RX6 211 RX6 yX6_isThing wsX6_isThing) := goodIn_app (goodIn_of _ (by decide +kernel)) ggX6_slide_X6_isThing
set_option maxRecDepth 20000 in
theorem ggX6_slide_X6_isSafe : GoodIn wsX6_slide wsX6_isSafe := goodIn_r _ [16, 9, 17, 18, 19, 20, 7, 21, 22, 23, 24, 25, 26, 27, 35, 36, 37, 38, 39, 40, 41, 42, 43, 44, 45, 46, 47, 48, 49, 50, 51, 52, 53, 54, 55, 56, 57, 58, 59, 60, 61, 62, 63, 64, 65, 66, 67, 68, 69, 70, 71, 72, 73] (by decide +kernel) (by decide +kernel)
set_option maxRecDepth 20000 in
theorem gX6_slide_X6_isSafe : GoodIn wsX6_slide (wsV RX6 208 RX6 yX6_isSafe wsX6_isSafe) := goodIn_app (goodIn_of _ (by decide +kernel)) ggX6_slide_X6_isSafe
set_option maxRecDepth 20000 in
theorem ggX6_slide_X6_remember : GoodIn wsX6_slide wsX6_remember := goodIn_r _ [31, 32, 33, 3, 34, 35, 36, 37, 38, 39, 40, 41, 42, 43, 44, 45, 46, 47, 48, 49, 50, 51, 52, 53, 54, 55, 56, 57, 58, 59, 60, 61, 62, 63, 64, 65, 66, 67, 68, 69, 70, 71, 72, 73] (by decide +kernel) (by decide +kernel)
set_option maxRecDepth 20000 in
theorem gX6_slide_X6_remember : GoodIn wsX6_slide (wsV RX6 223 RX6 yX6_remember wsX6_remember) := goodIn_app (goodIn_of _ (by decide +kernel)) ggX6_slide_X6_remember
set_option maxRecDepth 20000 in
theorem ggX6_goes_X6_crosses : GoodIn wsX6_goes wsX6_crosses := goodIn_r _ [9, 10, 11, 12, 8, 13, 4, 14, 15, 16, 17, 18, 19, 20, 21, 22, 23, 24, 25, 26, 27, 28, 29, 30, 31, 32, 33, 34, 35, 36, 37, 38, 39, 40, 41, 42, 43, 44, 45, 46, 47, 48, 49, 50, 51, 52, 53, 54, 55, 56, 57, 58, 59, 60, 61, 62, 63, 64, 65, 66, 67, 68] (by decide +kernel) (by decide +kernel)
set_option maxRecDepth 20000 in
theorem gX6_goes_X6_crosses : GoodIn wsX6_goes (wsV RX6 219 RX6 yX6_crosses wsX6_crosses) := goodIn_app (goodIn_of _ (by decide +kernel)) ggX6_goes_X6_crosses
set_option maxRecDepth 20000 in
theorem ggX6_doneFrom_X6_goes : GoodIn wsX6_doneFrom wsX6_goes := goodIn_r _ [8, 3, 2, 1, 9, 10, 11, 12, 7, 13, 14, 15, 16, 17, 18, 19, 20, 21, 22, 23, 24, 25, 26, 27, 28, 29, 30, 31, 32, 33, 39, 40, 41, 42, 43, 44, 45, 46, 47, 48, 49, 50, 51, 52, 53, 54, 55, 56, 57, 58, 59, 60, 61, 62, 63, 64, 65, 66, 67, 68, 69, 70, 71, 72, 73, 74, 75, 76, 77] (by decide +kernel) (by decide +kernel)
set_option maxRecDepth 20000 in
theorem gX6_doneFrom_X6_goes : GoodIn wsX6_doneFrom (wsV RX6 230 RX6 yX6_goes wsX6_goes) := goodIn_app (goodIn_of _ (by decide +kernel)) ggX6_doneFrom_X6_goes
set_option maxRecDepth 20000 in
theorem ggX6_doneFrom_X6_wrongOf : GoodIn wsX6_doneFrom wsX6_wrongOf := goodIn_r _ [37, 9, 38, 39, 40, 41, 42, 43, 44, 45, 46, 47, 48, 49, 50, 51, 52, 53, 54, 55, 56, 57, 58, 59, 60, 61, 62, 63, 64, 65, 66, 67, 68, 69, 70, 71, 72, 73, 74, 75, 76, 77] (by decide +kernel) (by decide +kernel)
set_option maxRecDepth 20000 in
theorem gX6_doneFrom_X6_wrongOf : GoodIn wsX6_doneFrom (wsV RX6 202 RX6 yX6_wrongOf wsX6_wrongOf) := goodIn_app (goodIn_of _ (by decide +kernel)) ggX6_doneFrom_X6_wrongOf
set_option maxRecDepth 20000 in
theorem ggX6_plans_X6_rentOf : GoodIn wsX6_plans wsX6_rentOf := goodIn_r _ [13, 5, 14, 15, 16, 17, 12, 18, 19, 20, 21, 22, 44, 45, 46, 47, 48, 49, 50, 51, 52, 53, 54, 55, 56, 57, 58, 59, 60, 61, 62, 63, 64, 65, 66, 67, 68, 69, 70, 71, 72, 73, 74, 75, 76, 77, 78, 79, 80, 81, 82] (by decide +kernel) (by decide +kernel)
set_option maxRecDepth 20000 in
theorem gX6_plans_X6_rentOf : GoodIn wsX6_plans (wsV RX6 216 RX6 yX6_rentOf wsX6_rentOf) := goodIn_app (goodIn_of _ (by decide +kernel)) ggX6_plans_X6_rentOf
set_option maxRecDepth 20000 in
theorem ggX6_plans_X6_wrongOf : GoodIn wsX6_plans wsX6_wrongOf := goodIn_r _ [18, 5, 19, 44, 45, 46, 47, 48, 49, 50, 51, 52, 53, 54, 55, 56, 57, 58, 59, 60, 61, 62, 63, 64, 65, 66, 67, 68, 69, 70, 71, 72, 73, 74, 75, 76, 77, 78, 79, 80, 81, 82] (by decide +kernel) (by decide +kernel)
set_option maxRecDepth 20000 in
theorem gX6_plans_X6_wrongOf : GoodIn wsX6_plans (wsV RX6 202 RX6 yX6_wrongOf wsX6_wrongOf) := goodIn_app (goodIn_of _ (by decide +kernel)) ggX6_plans_X6_wrongOf
set_option maxRecDepth 20000 in
theorem ggX6_plans_X6_crosses : GoodIn wsX6_plans wsX6_crosses := goodIn_r _ [26, 27, 28, 29, 12, 30, 5, 31, 32, 33, 34, 35, 36, 37, 38, 20, 21, 22, 39, 40, 41, 42, 43, 44, 45, 46, 47, 48, 49, 50, 51, 52, 53, 54, 55, 56, 57, 58, 59, 60, 61, 62, 63, 64, 65, 66, 67, 68, 69, 70, 71, 72, 73, 74, 75, 76, 77, 78, 79, 80, 81, 82] (by decide +kernel) (by decide +kernel)
set_option maxRecDepth 20000 in
theorem gX6_plans_X6_crosses : GoodIn wsX6_plans (wsV RX6 219 RX6 yX6_crosses wsX6_crosses) := goodIn_app (goodIn_of _ (by decide +kernel)) ggX6_plans_X6_crosses
set_option maxRecDepth 20000 in
theorem ggX6_done_X6_doneFrom : GoodIn wsX6_done wsX6_doneFrom := goodIn_r _ [8, 9, 10, 11, 12, 13, 14, 7, 15, 16, 17, 18, 19, 20, 21, 22, 23, 24, 25, 26, 27, 28, 29, 30, 31, 32, 33, 34, 35, 36, 37, 38, 39, 40, 41, 42, 43, 44, 45, 56, 57, 58, 59, 60, 61, 62, 63, 64, 65, 66, 67, 68, 69, 70, 71, 72, 73, 74, 75, 76, 77, 78, 79, 80, 81, 82, 83, 84, 85, 86, 87, 88, 89, 90, 91, 92, 93, 94] (by decide +kernel) (by decide +kernel)
set_option maxRecDepth 20000 in
theorem gX6_done_X6_doneFrom : GoodIn wsX6_done (wsV RX6 234 RX6 yX6_doneFrom wsX6_doneFrom) := goodIn_app (goodIn_of _ (by decide +kernel)) ggX6_done_X6_doneFrom
set_option maxRecDepth 20000 in
theorem ggX6_done_X6_plans : GoodIn wsX6_done wsX6_plans := goodIn_r _ [49, 9, 10, 50, 11, 16, 2, 1, 3, 51, 52, 53, 7, 54, 55, 41, 42, 43, 44, 45, 33, 34, 35, 17, 18, 19, 20, 21, 22, 23, 24, 25, 26, 27, 28, 29, 30, 31, 32, 36, 37, 38, 39, 40, 56, 57, 58, 59, 60, 61, 62, 63, 64, 65, 66, 67, 68, 69, 70, 71, 72, 73, 74, 75, 76, 77, 78, 79, 80, 81, 82, 83, 84, 85, 86, 87, 88, 89, 90, 91, 92, 93, 94] (by decide +kernel) (by decide +kernel)
set_option maxRecDepth 20000 in
theorem gX6_done_X6_plans : GoodIn wsX6_done (wsV RX6 237 RX6 yX6_plans wsX6_plans) := goodIn_app (goodIn_of _ (by decide +kernel)) ggX6_done_X6_plans
set_option maxRecDepth 20000 in
theorem ggX6_rent_X6_in : GoodIn wsX6_rent wsX6_in := goodIn_r _ [11] (by decide +kernel) (by decide +kernel)
set_option maxRecDepth 20000 in
theorem gX6_rent_X6_in : GoodIn wsX6_rent (va_wsS RX6 85 yX6_in wsX6_in) := goodIn_app (goodIn_of _ (by decide +kernel)) ggX6_rent_X6_in
set_option maxRecDepth 20000 in
theorem ggX6_rent_X6_goes : GoodIn wsX6_rent wsX6_goes := goodIn_r _ [15, 6, 5, 4, 16, 17, 18, 19, 10, 20, 21, 22, 23, 24, 25, 26, 27, 28, 29, 30, 31, 32, 33, 34, 35, 36, 37, 38, 39, 40, 56, 57, 58, 59, 60, 61, 62, 63, 64, 65, 66, 67, 68, 69, 70, 71, 72, 73, 74, 75, 76, 77, 78, 79, 80, 81, 82, 83, 84, 85, 86, 87, 88, 89, 90, 91, 92, 93, 94] (by decide +kernel) (by decide +kernel)
set_option maxRecDepth 20000 in
theorem gX6_rent_X6_goes : GoodIn wsX6_rent (wsV RX6 230 RX6 yX6_goes wsX6_goes) := goodIn_app (goodIn_of _ (by decide +kernel)) ggX6_rent_X6_goes
set_option maxRecDepth 20000 in
theorem ggX6_rent_X6_rentOf : GoodIn wsX6_rent wsX6_rentOf := goodIn_r _ [44, 16, 45, 46, 47, 48, 10, 49, 50, 33, 34, 35, 56, 57, 58, 59, 60, 61, 62, 63, 64, 65, 66, 67, 68, 69, 70, 71, 72, 73, 74, 75, 76, 77, 78, 79, 80, 81, 82, 83, 84, 85, 86, 87, 88, 89, 90, 91, 92, 93, 94] (by decide +kernel) (by decide +kernel)
set_option maxRecDepth 20000 in
theorem gX6_rent_X6_rentOf : GoodIn wsX6_rent (wsV RX6 216 RX6 yX6_rentOf wsX6_rentOf) := goodIn_app (goodIn_of _ (by decide +kernel)) ggX6_rent_X6_rentOf
set_option maxRecDepth 20000 in
theorem ggX6_rent_X6_plans : GoodIn wsX6_rent wsX6_plans := goodIn_r _ [54, 4, 5, 55, 6, 16, 3, 2, 7, 41, 42, 43, 10, 44, 45, 46, 47, 48, 49, 50, 33, 34, 35, 17, 18, 19, 20, 21, 22, 23, 24, 25, 26, 27, 28, 29, 30, 31, 32, 36, 37, 38, 39, 40, 56, 57, 58, 59, 60, 61, 62, 63, 64, 65, 66, 67, 68, 69, 70, 71, 72, 73, 74, 75, 76, 77, 78, 79, 80, 81, 82, 83, 84, 85, 86, 87, 88, 89, 90, 91, 92, 93, 94] (by decide +kernel) (by decide +kernel)
set_option maxRecDepth 20000 in
theorem gX6_rent_X6_plans : GoodIn wsX6_rent (wsV RX6 237 RX6 yX6_plans wsX6_plans) := goodIn_app (goodIn_of _ (by decide +kernel)) ggX6_rent_X6_plans
set_option maxRecDepth 20000 in
theorem ggX6_least_X6_doneFrom : GoodIn wsX6_least wsX6_doneFrom := goodIn_r _ [6, 7, 8, 9, 10, 11, 12, 5, 13, 14, 15, 16, 17, 18, 19, 20, 21, 22, 23, 24, 25, 26, 27, 28, 29, 30, 31, 32, 33, 34, 35, 36, 37, 38, 39, 40, 41, 42, 43, 44, 45, 46, 47, 48, 49, 50, 51, 52, 53, 54, 55, 56, 57, 58, 59, 60, 61, 62, 63, 64, 65, 66, 67, 68, 69, 70, 71, 72, 73, 74, 75, 76, 77, 78, 79, 80, 81, 82] (by decide +kernel) (by decide +kernel)
set_option maxRecDepth 20000 in
theorem gX6_least_X6_doneFrom : GoodIn wsX6_least (wsV RX6 234 RX6 yX6_doneFrom wsX6_doneFrom) := goodIn_app (goodIn_of _ (by decide +kernel)) ggX6_least_X6_doneFrom
set_option maxRecDepth 20000 in
theorem ggX6_sooner_X6_isThing : GoodIn wsX6_sooner wsX6_isThing := goodIn_r _ [12, 7, 13, 14, 11, 15, 53, 54, 55, 56, 57, 58, 59, 60, 61, 62, 63, 64, 65, 66, 67, 68, 69, 70, 71, 72, 73, 74, 75, 76, 77, 78, 79, 80, 81, 82, 83, 84, 85, 86, 87, 88, 89, 90, 91] (by decide +kernel) (by decide +kernel)
set_option maxRecDepth 20000 in
theorem gX6_sooner_X6_isThing : GoodIn wsX6_sooner (wsV RX6 211 RX6 yX6_isThing wsX6_isThing) := goodIn_app (goodIn_of _ (by decide +kernel)) ggX6_sooner_X6_isThing
set_option maxRecDepth 20000 in
theorem ggX6_sooner_X6_doneFrom : GoodIn wsX6_sooner wsX6_doneFrom := goodIn_r _ [19, 20, 21, 22, 23, 24, 25, 11, 26, 7, 27, 28, 29, 30, 31, 32, 33, 34, 35, 36, 37, 38, 39, 40, 41, 6, 42, 43, 44, 45, 46, 47, 48, 5, 49, 50, 51, 52, 4, 53, 54, 55, 56, 57, 58, 59, 60, 61, 62, 63, 64, 65, 66, 67, 68, 69, 70, 71, 72, 73, 74, 75, 76, 77, 78, 79, 80, 81, 82, 83, 84, 85, 86, 87, 88, 89, 90, 91] (by decide +kernel) (by decide +kernel)
set_option maxRecDepth 20000 in
theorem gX6_sooner_X6_doneFrom : GoodIn wsX6_sooner (wsV RX6 234 RX6 yX6_doneFrom wsX6_doneFrom) := goodIn_app (goodIn_of _ (by decide +kernel)) ggX6_sooner_X6_doneFrom
set_option maxRecDepth 20000 in
theorem ggX6_sooner_X6_has : GoodIn wsX6_sooner wsX6_has := goodIn_r _ [44] (by decide +kernel) (by decide +kernel)
set_option maxRecDepth 20000 in
theorem gX6_sooner_X6_has : GoodIn wsX6_sooner (va_wsS RX6 199 yX6_has wsX6_has) := goodIn_app (goodIn_of _ (by decide +kernel)) ggX6_sooner_X6_has
set_option maxRecDepth 20000 in
theorem ggX6_standings_X6_goes : GoodIn wsX6_standings wsX6_goes := goodIn_r _ [8, 9, 10, 3, 11, 12, 13, 14, 7, 15, 16, 17, 18, 19, 20, 21, 22, 23, 24, 25, 26, 27, 28, 29, 30, 31, 32, 33, 34, 35, 36, 37, 38, 39, 40, 41, 42, 43, 44, 45, 46, 47, 48, 49, 50, 51, 52, 53, 54, 55, 56, 57, 58, 59, 60, 61, 62, 63, 64, 65, 66, 67, 68, 69, 70, 71, 72, 73, 74] (by decide +kernel) (by decide +kernel)
set_option maxRecDepth 20000 in
theorem gX6_standings_X6_goes : GoodIn wsX6_standings (wsV RX6 230 RX6 yX6_goes wsX6_goes) := goodIn_app (goodIn_of _ (by decide +kernel)) ggX6_standings_X6_goes
set_option maxRecDepth 20000 in
theorem ggX6_saw_X6_in : GoodIn wsX6_saw wsX6_in := goodIn_r _ [9] (by decide +kernel) (by decide +kernel)
set_option maxRecDepth 20000 in
theorem gX6_saw_X6_in : GoodIn wsX6_saw (va_wsS RX6 85 yX6_in wsX6_in) := goodIn_app (goodIn_of _ (by decide +kernel)) ggX6_saw_X6_in
set_option maxRecDepth 20000 in
theorem ggX6_saw_X6_isThing : GoodIn wsX6_saw wsX6_isThing := goodIn_r _ [13, 14, 6, 7, 8, 9, 15, 16, 17, 18, 19, 20, 21, 22, 23, 24, 25, 26, 27, 28, 29, 30, 31, 32, 33, 34, 35, 36, 37, 38, 39, 40, 41, 42, 43, 44, 45, 46, 47, 48, 49, 50, 51, 52, 53] (by decide +kernel) (by decide +kernel)
set_option maxRecDepth 20000 in
theorem gX6_saw_X6_isThing : GoodIn wsX6_saw (wsV RX6 211 RX6 yX6_isThing wsX6_isThing) := goodIn_app (goodIn_of _ (by decide +kernel)) ggX6_saw_X6_isThing
set_option maxRecDepth 20000 in
theorem ggX6_fitting_X6_isSeen : GoodIn wsX6_fitting wsX6_isSeen := goodIn_r _ [10, 11, 12, 13, 14, 39, 40, 41, 42, 43, 44, 45, 46, 47, 48, 49, 50, 51, 52, 53, 54, 55, 56, 57, 58, 59, 60, 61, 62, 63, 64, 65, 66, 67, 68, 69, 70, 71, 72, 73, 74, 75, 76, 77] (by decide +kernel) (by decide +kernel)
set_option maxRecDepth 20000 in
theorem gX6_fitting_X6_isSeen : GoodIn wsX6_fitting (wsV RX6 246 RX6 yX6_isSeen wsX6_isSeen) := goodIn_app (goodIn_of _ (by decide +kernel)) ggX6_fitting_X6_isSeen
set_option maxRecDepth 20000 in
theorem ggX6_fitting_X6_has : GoodIn wsX6_fitting wsX6_has := goodIn_r _ [17] (by decide +kernel) (by decide +kernel)
set_option maxRecDepth 20000 in
theorem gX6_fitting_X6_has : GoodIn wsX6_fitting (va_wsS RX6 199 yX6_has wsX6_has) := goodIn_app (goodIn_of _ (by decide +kernel)) ggX6_fitting_X6_has
set_option maxRecDepth 20000 in
theorem ggX6_fitting_X6_crosses : GoodIn wsX6_fitting wsX6_crosses := goodIn_r _ [21, 22, 23, 24, 9, 25, 4, 26, 27, 28, 29, 30, 31, 32, 33, 15, 16, 17, 34, 35, 36, 37, 38, 39, 40, 41, 42, 43, 44, 45, 46, 47, 48, 49, 50, 51, 52, 53, 54, 55, 56, 57, 58, 59, 60, 61, 62, 63, 64, 65, 66, 67, 68, 69, 70, 71, 72, 73, 74, 75, 76, 77] (by decide +kernel) (by decide +kernel)
set_option maxRecDepth 20000 in
theorem gX6_fitting_X6_crosses : GoodIn wsX6_fitting (wsV RX6 219 RX6 yX6_crosses wsX6_crosses) := goodIn_app (goodIn_of _ (by decide +kernel)) ggX6_fitting_X6_crosses
set_option maxRecDepth 20000 in
theorem ggX6_fits_X6_in : GoodIn wsX6_fits wsX6_in := goodIn_r _ [7] (by decide +kernel) (by decide +kernel)
set_option maxRecDepth 20000 in
theorem gX6_fits_X6_in : GoodIn wsX6_fits (va_wsS RX6 85 yX6_in wsX6_in) := goodIn_app (goodIn_of _ (by decide +kernel)) ggX6_fits_X6_in
set_option maxRecDepth 20000 in
theorem ggX6_fits_X6_fitting : GoodIn wsX6_fits wsX6_fitting := goodIn_r _ [11, 12, 13, 14, 3, 15, 16, 17, 18, 6, 19, 20, 21, 22, 23, 24, 25, 26, 27, 28, 29, 30, 31, 32, 33, 34, 35, 36, 37, 38, 39, 40, 41, 42, 43, 44, 45, 46, 47, 48, 49, 50, 51, 52, 53, 54, 55, 56, 57, 58, 59, 60, 61, 62, 63, 64, 65, 66, 67, 68, 69, 70, 71, 72, 73, 74, 75, 76, 77, 78, 79, 80, 81, 82, 83, 84, 85, 86] (by decide +kernel) (by decide +kernel)
set_option maxRecDepth 20000 in
theorem gX6_fits_X6_fitting : GoodIn wsX6_fits (wsV RX6 249 RX6 yX6_fitting wsX6_fitting) := goodIn_app (goodIn_of _ (by decide +kernel)) ggX6_fits_X6_fitting
set_option maxRecDepth 20000 in
theorem ggX6_owed_X6_isThing : GoodIn wsX6_owed wsX6_isThing := goodIn_r _ [10, 11, 12, 13, 9, 14, 23, 24, 25, 26, 27, 28, 29, 30, 31, 32, 33, 34, 35, 36, 37, 38, 39, 40, 41, 42, 43, 44, 45, 46, 47, 48, 49, 50, 51, 52, 53, 54, 55, 56, 57, 58, 59, 60, 61] (by decide +kernel) (by decide +kernel)
set_option maxRecDepth 20000 in
theorem gX6_owed_X6_isThing : GoodIn wsX6_owed (wsV RX6 211 RX6 yX6_isThing wsX6_isThing) := goodIn_app (goodIn_of _ (by decide +kernel)) ggX6_owed_X6_isThing
set_option maxRecDepth 20000 in
theorem ggX6_owed_X6_in : GoodIn wsX6_owed wsX6_in := goodIn_r _ [14] (by decide +kernel) (by decide +kernel)
set_option maxRecDepth 20000 in
theorem gX6_owed_X6_in : GoodIn wsX6_owed (va_wsS RX6 85 yX6_in wsX6_in) := goodIn_app (goodIn_of _ (by decide +kernel)) ggX6_owed_X6_in
set_option maxRecDepth 20000 in
theorem ggX6_owed_X6_wrongOf : GoodIn wsX6_owed wsX6_wrongOf := goodIn_r _ [18, 11, 19, 23, 24, 25, 26, 27, 28, 29, 30, 31, 32, 33, 34, 35, 36, 37, 38, 39, 40, 41, 42, 43, 44, 45, 46, 47, 48, 49, 50, 51, 52, 53, 54, 55, 56, 57, 58, 59, 60, 61] (by decide +kernel) (by decide +kernel)
set_option maxRecDepth 20000 in
theorem gX6_owed_X6_wrongOf : GoodIn wsX6_owed (wsV RX6 202 RX6 yX6_wrongOf wsX6_wrongOf) := goodIn_app (goodIn_of _ (by decide +kernel)) ggX6_owed_X6_wrongOf
set_option maxRecDepth 20000 in
theorem ggX6_owed_X6_has : GoodIn wsX6_owed wsX6_has := goodIn_r _ [22] (by decide +kernel) (by decide +kernel)
set_option maxRecDepth 20000 in
theorem gX6_owed_X6_has : GoodIn wsX6_owed (va_wsS RX6 199 yX6_has wsX6_has) := goodIn_app (goodIn_of _ (by decide +kernel)) ggX6_owed_X6_has
set_option maxRecDepth 20000 in
theorem ggX6_mark_X6_in : GoodIn wsX6_mark wsX6_in := goodIn_r _ [16] (by decide +kernel) (by decide +kernel)
set_option maxRecDepth 20000 in
theorem gX6_mark_X6_in : GoodIn wsX6_mark (va_wsS RX6 85 yX6_in wsX6_in) := goodIn_app (goodIn_of _ (by decide +kernel)) ggX6_mark_X6_in
set_option maxRecDepth 20000 in
theorem ggX6_mark_X6_isThing : GoodIn wsX6_mark wsX6_isThing := goodIn_r _ [20, 21, 13, 14, 15, 16, 25, 26, 27, 28, 29, 30, 31, 32, 33, 34, 35, 36, 37, 38, 39, 40, 41, 42, 43, 44, 45, 46, 47, 48, 49, 50, 51, 52, 53, 54, 55, 56, 57, 58, 59, 60, 61, 62, 63] (by decide +kernel) (by decide +kernel)
set_option maxRecDepth 20000 in
theorem gX6_mark_X6_isThing : GoodIn wsX6_mark (wsV RX6 211 RX6 yX6_isThing wsX6_isThing) := goodIn_app (goodIn_of _ (by decide +kernel)) ggX6_mark_X6_isThing
set_option maxRecDepth 20000 in
theorem ggX6_mark_X6_bits : GoodIn wsX6_mark wsX6_bits := goodIn_r _ [24] (by decide +kernel) (by decide +kernel)
set_option maxRecDepth 20000 in
theorem gX6_mark_X6_bits : GoodIn wsX6_mark (va_wsS RX6 268 yX6_bits wsX6_bits) := goodIn_app (goodIn_of _ (by decide +kernel)) ggX6_mark_X6_bits
set_option maxRecDepth 20000 in
theorem ggX6_keep_X6_in : GoodIn wsX6_keep wsX6_in := goodIn_r _ [11] (by decide +kernel) (by decide +kernel)
set_option maxRecDepth 20000 in
theorem gX6_keep_X6_in : GoodIn wsX6_keep (va_wsS RX6 85 yX6_in wsX6_in) := goodIn_app (goodIn_of _ (by decide +kernel)) ggX6_keep_X6_in
set_option maxRecDepth 20000 in
theorem ggX6_back_X6_in : GoodIn wsX6_back wsX6_in := goodIn_r _ [11] (by decide +kernel) (by decide +kernel)
set_option maxRecDepth 20000 in
theorem gX6_back_X6_in : GoodIn wsX6_back (va_wsS RX6 85 yX6_in wsX6_in) := goodIn_app (goodIn_of _ (by decide +kernel)) ggX6_back_X6_in
set_option maxRecDepth 20000 in
theorem ggJ0_length_8abf5_J0_coder_7d493 : GoodIn wsJ0_length_8abf5 wsJ0_coder_7d493 := goodIn_r _ [6, 7, 8] (by decide +kernel) (by decide +kernel)
set_option maxRecDepth 20000 in
theorem gJ0_length_8abf5_J0_coder_7d493 : GoodIn wsJ0_length_8abf5 (wsV RJ0 335 RJ0 yJ0_coder_7d493 wsJ0_coder_7d493) := goodIn_app (goodIn_of _ (by decide +kernel)) ggJ0_length_8abf5_J0_coder_7d493
set_option maxRecDepth 20000 in
theorem ggJ0_charAt_5068e_J0_isLatin1_aae02 : GoodIn wsJ0_charAt_5068e wsJ0_isLatin1_aae02 := goodIn_r _ [6, 7, 8] (by decide +kernel) (by decide +kernel)
set_option maxRecDepth 20000 in
theorem gJ0_charAt_5068e_J0_isLatin1_aae02 : GoodIn wsJ0_charAt_5068e (wsV RJ0 492 RJ0 yJ0_isLatin1_aae02 wsJ0_isLatin1_aae02) := goodIn_app (goodIn_of _ (by decide +kernel)) ggJ0_charAt_5068e_J0_isLatin1_aae02
set_option maxRecDepth 20000 in
theorem ggJ0_charAt_5068e_J1_charAt_3b067 : GoodIn wsJ0_charAt_5068e wsJ1_charAt_3b067 := goodIn_r _ [12, 13, 14, 5, 15, 16, 17, 18, 19, 20] (by decide +kernel) (by decide +kernel)
set_option maxRecDepth 20000 in
theorem gJ0_charAt_5068e_J1_charAt_3b067 : GoodIn wsJ0_charAt_5068e (va_wsS RJ0 495 yJ1_charAt_3b067 wsJ1_charAt_3b067) := goodIn_app (goodIn_of _ (by decide +kernel)) ggJ0_charAt_5068e_J1_charAt_3b067
set_option maxRecDepth 20000 in
theorem ggJ0_charAt_5068e_J2_charAt_3b067 : GoodIn wsJ0_charAt_5068e wsJ2_charAt_3b067 := goodIn_r _ [24, 25, 26, 23, 27, 28, 29, 30, 31, 14, 5, 15, 16, 17, 18, 19, 20, 32, 33, 34, 35, 36, 37] (by decide +kernel) (by decide +kernel)
set_option maxRecDepth 20000 in
theorem gJ0_charAt_5068e_J2_charAt_3b067 : GoodIn wsJ0_charAt_5068e (va_wsS RJ0 498 yJ2_charAt_3b067 wsJ2_charAt_3b067) := goodIn_app (goodIn_of _ (by decide +kernel)) ggJ0_charAt_5068e_J2_charAt_3b067
set_option maxRecDepth 20000 in
theorem ggJ0_checkIndex_df160_J3_checkIndex_8e157 : GoodIn wsJ0_checkIndex_df160 wsJ3_checkIndex_8e157 := goodIn_r _ [5] (by decide +kernel) (by decide +kernel)
set_option maxRecDepth 20000 in
theorem gJ0_checkIndex_df160_J3_checkIndex_8e157 : GoodIn wsJ0_checkIndex_df160 (va_wsS RJ0 1059 yJ3_checkIndex_8e157 wsJ3_checkIndex_8e157) := goodIn_app (goodIn_of _ (by decide +kernel)) ggJ0_checkIndex_df160_J3_checkIndex_8e157
set_option maxRecDepth 20000 in
theorem ggJ1_charAt_3b067_J0_checkIndex_df160 : GoodIn wsJ1_charAt_3b067 wsJ0_checkIndex_df160 := goodIn_r _ [4, 5, 6, 7, 8, 9] (by decide +kernel) (by decide +kernel)
set_option maxRecDepth 20000 in
theorem gJ1_charAt_3b067_J0_checkIndex_df160 : GoodIn wsJ1_charAt_3b067 (va_wsS RJ1 9 yJ0_checkIndex_df160 wsJ0_checkIndex_df160) := goodIn_app (goodIn_of _ (by decide +kernel)) ggJ1_charAt_3b067_J0_checkIndex_df160
set_option maxRecDepth 20000 in
theorem ggJ2_getChar_3b067_J2_length_9d52b : GoodIn wsJ2_getChar_3b067 wsJ2_length_9d52b := goodIn_r _ [7] (by decide +kernel) (by decide +kernel)
set_option maxRecDepth 20000 in
theorem gJ2_getChar_3b067_J2_length_9d52b : GoodIn wsJ2_getChar_3b067 (va_wsS RJ2 48 yJ2_length_9d52b wsJ2_length_9d52b) := goodIn_app (goodIn_of _ (by decide +kernel)) ggJ2_getChar_3b067_J2_length_9d52b
set_option maxRecDepth 20000 in
theorem ggJ2_charAt_3b067_J2_checkIndex_2214a : GoodIn wsJ2_charAt_3b067 wsJ2_checkIndex_2214a := goodIn_r _ [4, 5, 6, 3, 7, 8, 9, 10, 11, 12, 13, 14, 15, 16] (by decide +kernel) (by decide +kernel)
set_option maxRecDepth 20000 in
theorem gJ2_charAt_3b067_J2_checkIndex_2214a : GoodIn wsJ2_charAt_3b067 (va_wsS RJ2 67 yJ2_checkIndex_2214a wsJ2_checkIndex_2214a) := goodIn_app (goodIn_of _ (by decide +kernel)) ggJ2_charAt_3b067_J2_checkIndex_2214a
set_option maxRecDepth 20000 in
theorem ggJ2_charAt_3b067_J2_getChar_3b067 : GoodIn wsJ2_charAt_3b067 wsJ2_getChar_3b067 := goodIn_r _ [19, 20, 21, 22, 5, 6, 3, 7] (by decide +kernel) (by decide +kernel)
set_option maxRecDepth 20000 in
theorem gJ2_charAt_3b067_J2_getChar_3b067 : GoodIn wsJ2_charAt_3b067 (va_wsS RJ2 71 yJ2_getChar_3b067 wsJ2_getChar_3b067) := goodIn_app (goodIn_of _ (by decide +kernel)) ggJ2_charAt_3b067_J2_getChar_3b067
set_option maxRecDepth 20000 in
theorem ggJ2_checkIndex_2214a_J2_length_9d52b : GoodIn wsJ2_checkIndex_2214a wsJ2_length_9d52b := goodIn_r _ [4] (by decide +kernel) (by decide +kernel)
set_option maxRecDepth 20000 in
theorem gJ2_checkIndex_2214a_J2_length_9d52b : GoodIn wsJ2_checkIndex_2214a (va_wsS RJ2 48 yJ2_length_9d52b wsJ2_length_9d52b) := goodIn_app (goodIn_of _ (by decide +kernel)) ggJ2_checkIndex_2214a_J2_length_9d52b
set_option maxRecDepth 20000 in
theorem ggJ2_checkIndex_2214a_J0_checkIndex_df160 : GoodIn wsJ2_checkIndex_2214a wsJ0_checkIndex_df160 := goodIn_r _ [8, 9, 10, 11, 12, 13] (by decide +kernel) (by decide +kernel)
set_option maxRecDepth 20000 in
theorem gJ2_checkIndex_2214a_J0_checkIndex_df160 : GoodIn wsJ2_checkIndex_2214a (va_wsS RJ2 414 yJ0_checkIndex_df160 wsJ0_checkIndex_df160) := goodIn_app (goodIn_of _ (by decide +kernel)) ggJ2_checkIndex_2214a_J0_checkIndex_df160
