set_option maxRecDepth 20000 in
theorem ggX0_enter_X4_within : GoodIn wsX0_enter wsX4_within := goodIn_r _ [9] rfl (by decide +kernel)
set_option maxRecDepth 20000 in
theorem gX0_enter_X4_within_n34 : GoodIn wsX0_enter (wsX4_within) := ggX0_enter_X4_within
set_option maxRecDepth 20000 in
theorem ggX2_init_X1_init : GoodIn wsX2_init wsX1_init := goodIn_r _ [14, 15, 2, 3, 16, 17, 18, 19, 40, 41, 42, 43, 44] rfl (by decide +kernel)
set_option maxRecDepth 20000 in
theorem gX2_init_X1_init_n11 : GoodIn wsX2_init (wsX1_init) := ggX2_init_X1_init
set_option maxRecDepth 20000 in
theorem ggX2_init_X3_init : GoodIn wsX2_init wsX3_init := goodIn_r _ [22, 23, 2, 3, 16, 24, 25, 26, 27, 28, 29, 30, 31, 32, 33, 34, 35, 36, 37, 38, 39, 58, 59, 60, 61, 62, 63, 64, 65, 66, 67, 68, 69, 70, 71] rfl (by decide +kernel)
set_option maxRecDepth 20000 in
theorem gX2_init_X3_init : GoodIn wsX2_init (wsX3_init) := ggX2_init_X3_init
set_option maxRecDepth 20000 in
theorem ggX2_goesThrough_X2_prepare : GoodIn wsX2_goesThrough wsX2_prepare := goodIn_r _ [16, 3, 17, 5, 2, 18, 19, 20, 7, 6, 21, 22, 23, 24, 25, 26, 27, 28, 29, 30, 31, 32, 33, 150, 151, 152, 153, 154, 155, 156, 157, 158, 159, 160, 161, 162, 168, 169, 170, 171, 172, 173, 174, 175, 176, 177, 178, 179, 180, 181] rfl (by decide +kernel)
set_option maxRecDepth 20000 in
theorem gX2_goesThrough_X2_prepare : GoodIn wsX2_goesThrough (wsV RX2 31 RX2 yX2_prepare wsX2_prepare) := goodIn_app (goodIn_of _ (by decide +kernel)) ggX2_goesThrough_X2_prepare
set_option maxRecDepth 20000 in
theorem ggX2_goesThrough_X1_gather : GoodIn wsX2_goesThrough wsX1_gather := goodIn_r _ [38, 39, 40, 41, 10, 42, 43, 44, 45, 46, 163, 164, 165, 166, 167] rfl (by decide +kernel)
set_option maxRecDepth 20000 in
theorem gX2_goesThrough_X1_gather : GoodIn wsX2_goesThrough (wsV RX2 35 RX1 yX1_gather wsX1_gather) := goodIn_app (goodIn_of _ (by decide +kernel)) ggX2_goesThrough_X1_gather
set_option maxRecDepth 20000 in
theorem ggX2_goesThrough_X1_nextInTurn : GoodIn wsX2_goesThrough wsX1_nextInTurn := goodIn_r _ [50, 39, 51, 43, 44, 163, 164, 165, 166, 167] rfl (by decide +kernel)
set_option maxRecDepth 20000 in
theorem gX2_goesThrough_X1_nextInTurn : GoodIn wsX2_goesThrough (wsV RX2 51 RX1 yX1_nextInTurn wsX1_nextInTurn) := goodIn_app (goodIn_of _ (by decide +kernel)) ggX2_goesThrough_X1_nextInTurn
set_option maxRecDepth 20000 in
theorem ggX2_goesThrough_X2_takeTurn : GoodIn wsX2_goesThrough wsX2_takeTurn := goodIn_r _ [55, 1, 56, 22, 7, 57, 58, 59, 60, 61, 62, 15, 63, 2, 3, 17, 64, 41, 10, 42, 21, 18, 5, 65, 66, 20, 67, 68, 69, 26, 70, 71, 9, 11, 28, 72, 73, 74, 75, 30, 31, 76, 77, 78, 37, 79, 46, 80, 81, 82, 83, 43, 44, 84, 85, 86, 87, 88, 89, 90, 91, 92, 93, 94, 95, 96, 97, 98, 99, 100, 101, 102, 103, 104, 105, 106, 107, 108, 109, 110, 111, 33, 112, 113, 114, 115, 116, 29, 117, 118, 119, 120, 121, 122, 123, 124, 125, 126, 127, 128, 129, 130, 131, 132, 133, 134, 135, 136, 137, 150, 151, 152, 153, 154, 155, 156, 157, 158, 159, 160, 161, 162, 163, 164, 165, 166, 167, 182, 183, 184, 185, 186, 187, 188, 168, 169, 170, 171, 172, 173, 174, 175, 176, 177, 178, 179, 180, 181] rfl (by decide +kernel)
set_option maxRecDepth 20000 in
theorem gX2_goesThrough_X2_takeTurn : GoodIn wsX2_goesThrough (wsV RX2 55 RX2 yX2_takeTurn wsX2_takeTurn) := goodIn_app (goodIn_of _ (by decide +kernel)) ggX2_goesThrough_X2_takeTurn
set_option maxRecDepth 20000 in
theorem ggX2_goesThrough_X2_keepWhatStands : GoodIn wsX2_goesThrough wsX2_keepWhatStands := goodIn_r _ [141, 2, 3, 22, 5, 19, 142, 143, 144, 26, 145, 28, 57, 58, 59, 146, 147, 148, 149, 91, 89, 92, 93, 94, 32, 95, 96, 97, 98, 99, 41, 10, 42, 100, 101, 102, 103, 104, 105, 106, 107, 150, 151, 152, 153, 154, 155, 156, 157, 158, 159, 160, 161, 162, 168, 169, 170, 171, 172, 173, 174, 175, 176, 177, 178, 179, 180, 181, 182, 183, 184, 185, 186, 187, 188] rfl (by decide +kernel)
set_option maxRecDepth 20000 in
theorem gX2_goesThrough_X2_keepWhatStands : GoodIn wsX2_goesThrough (wsV RX2 59 RX2 yX2_keepWhatStands wsX2_keepWhatStands) := goodIn_app (goodIn_of _ (by decide +kernel)) ggX2_goesThrough_X2_keepWhatStands
set_option maxRecDepth 20000 in
theorem ggX2_prepare_X3_openAll : GoodIn wsX2_prepare wsX3_openAll := goodIn_r _ [16, 17, 18, 19, 20, 21, 22, 36, 37, 38, 39, 40, 41, 42, 43, 44, 45, 46, 47, 48, 49] rfl (by decide +kernel)
set_option maxRecDepth 20000 in
theorem gX2_prepare_X3_openAll : GoodIn wsX2_prepare (wsV RX2 89 RX3 yX3_openAll wsX3_openAll) := goodIn_app (goodIn_of _ (by decide +kernel)) ggX2_prepare_X3_openAll
set_option maxRecDepth 20000 in
theorem ggX2_takeTurn_X4_within : GoodIn wsX2_takeTurn wsX4_within := goodIn_r _ [7] rfl (by decide +kernel)
set_option maxRecDepth 20000 in
theorem gX2_takeTurn_X4_within_n92 : GoodIn wsX2_takeTurn (wsX4_within) := ggX2_takeTurn_X4_within
set_option maxRecDepth 20000 in
theorem ggX2_takeTurn_X2_takeCall : GoodIn wsX2_takeTurn wsX2_takeCall := goodIn_r _ [12, 3, 13, 14, 15, 16, 17, 18, 19, 20, 21, 22, 1, 23, 24, 25, 2, 4, 26, 27, 28, 29, 30, 31, 32, 33, 34, 35, 36, 37, 38, 39, 40, 41, 42, 43, 44, 45, 46, 47, 48, 49, 50, 51, 52, 53, 54, 55, 56, 57, 58, 59, 60, 61, 62, 63, 64, 65, 66, 67, 68, 69, 70, 71, 72, 73, 74, 75, 76, 109, 110, 111, 112, 113, 114, 115, 116, 117, 118, 119, 120, 121, 127, 128, 129, 130, 131, 132, 133, 122, 123, 124, 125, 126, 134, 135, 136, 137, 138, 139, 140, 141, 142, 143, 144, 145, 146, 147] rfl (by decide +kernel)
set_option maxRecDepth 20000 in
theorem gX2_takeTurn_X2_takeCall : GoodIn wsX2_takeTurn (wsV RX2 100 RX2 yX2_takeCall wsX2_takeCall) := goodIn_app (goodIn_of _ (by decide +kernel)) ggX2_takeTurn_X2_takeCall
set_option maxRecDepth 20000 in
theorem ggX2_takeTurn_X3_doesLastStep : GoodIn wsX2_takeTurn wsX3_doesLastStep := goodIn_r _ [80, 57, 34, 81, 82, 83, 84, 29, 85, 60, 62, 58, 86, 87, 69, 71, 88, 89, 90, 91, 92, 72, 93, 94, 95, 96, 61, 63, 97, 98, 99, 100, 101, 102, 103, 104, 70, 105, 106, 107, 108, 134, 135, 136, 137, 138, 139, 140, 141, 142, 143, 144, 145, 146, 147, 127, 128, 129, 130, 131, 132, 133] rfl (by decide +kernel)
set_option maxRecDepth 20000 in
theorem gX2_takeTurn_X3_doesLastStep : GoodIn wsX2_takeTurn (wsV RX2 103 RX3 yX3_doesLastStep wsX3_doesLastStep) := goodIn_app (goodIn_of _ (by decide +kernel)) ggX2_takeTurn_X3_doesLastStep
set_option maxRecDepth 20000 in
theorem ggX2_takeCall_X3_leastOpen : GoodIn wsX2_takeCall wsX3_leastOpen := goodIn_r _ [22, 23, 24, 7, 25, 26, 94, 95, 96, 97, 98, 99, 100, 101, 102, 103, 104, 105, 106, 107] rfl (by decide +kernel)
set_option maxRecDepth 20000 in
theorem gX2_takeCall_X3_leastOpen : GoodIn wsX2_takeCall (wsV RX2 110 RX3 yX3_leastOpen wsX3_leastOpen) := goodIn_app (goodIn_of _ (by decide +kernel)) ggX2_takeCall_X3_leastOpen
set_option maxRecDepth 20000 in
theorem ggX2_takeCall_X3_noteBegun : GoodIn wsX2_takeCall wsX3_noteBegun := goodIn_r _ [30, 31, 32, 94, 95, 96, 97, 98, 99, 100, 101, 102, 103, 104, 105, 106, 107] rfl (by decide +kernel)
set_option maxRecDepth 20000 in
theorem gX2_takeCall_X3_noteBegun : GoodIn wsX2_takeCall (wsV RX2 113 RX3 yX3_noteBegun wsX3_noteBegun) := goodIn_app (goodIn_of _ (by decide +kernel)) ggX2_takeCall_X3_noteBegun
set_option maxRecDepth 20000 in
theorem ggX2_takeCall_X1_beginsOnceMore : GoodIn wsX2_takeCall wsX1_beginsOnceMore := goodIn_r _ [37, 38, 89, 90, 91, 92, 93] rfl (by decide +kernel)
set_option maxRecDepth 20000 in
theorem gX2_takeCall_X1_beginsOnceMore : GoodIn wsX2_takeCall (wsV RX2 116 RX1 yX1_beginsOnceMore wsX1_beginsOnceMore) := goodIn_app (goodIn_of _ (by decide +kernel)) ggX2_takeCall_X1_beginsOnceMore
set_option maxRecDepth 20000 in
theorem ggX2_takeCall_X1_dismiss : GoodIn wsX2_takeCall wsX1_dismiss := goodIn_r _ [42, 43, 44, 89, 90, 91, 92, 93] rfl (by decide +kernel)
set_option maxRecDepth 20000 in
theorem gX2_takeCall_X1_dismiss : GoodIn wsX2_takeCall (wsV RX2 125 RX1 yX1_dismiss wsX1_dismiss) := goodIn_app (goodIn_of _ (by decide +kernel)) ggX2_takeCall_X1_dismiss
set_option maxRecDepth 20000 in
theorem ggX2_takeCall_X3_setUnderWay : GoodIn wsX2_takeCall wsX3_setUnderWay := goodIn_r _ [48, 26, 49, 50, 51, 52, 53, 54, 55, 56, 57, 58, 21, 59, 60, 6, 7, 8, 61, 62, 63, 64, 65, 66, 67, 68, 94, 95, 96, 97, 98, 99, 100, 101, 102, 103, 104, 105, 106, 107, 82, 83, 84, 85, 86, 87, 88] rfl (by decide +kernel)
set_option maxRecDepth 20000 in
theorem gX2_takeCall_X3_setUnderWay : GoodIn wsX2_takeCall (wsV RX2 128 RX3 yX3_setUnderWay wsX3_setUnderWay) := goodIn_app (goodIn_of _ (by decide +kernel)) ggX2_takeCall_X3_setUnderWay
set_option maxRecDepth 20000 in
theorem ggX2_keepWhatStands_X3_waitsToBeKept : GoodIn wsX2_keepWhatStands wsX3_waitsToBeKept := goodIn_r _ [10, 11, 12, 13, 14, 54, 55, 56, 57, 58, 59, 60, 61, 62, 63, 64, 65, 66, 67] rfl (by decide +kernel)
set_option maxRecDepth 20000 in
theorem gX2_keepWhatStands_X3_waitsToBeKept : GoodIn wsX2_keepWhatStands (wsV RX2 131 RX3 yX3_waitsToBeKept wsX3_waitsToBeKept) := goodIn_app (goodIn_of _ (by decide +kernel)) ggX2_keepWhatStands_X3_waitsToBeKept
set_option maxRecDepth 20000 in
theorem ggX2_keepWhatStands_X3_settle : GoodIn wsX2_keepWhatStands wsX3_settle := goodIn_r _ [18, 19, 20, 21, 22, 23, 11, 24, 25, 26, 27, 9, 28, 29, 30, 31, 32, 33, 34, 35, 36, 37, 38, 39, 40, 54, 55, 56, 57, 58, 59, 60, 61, 62, 63, 64, 65, 66, 67, 68, 69, 70, 71, 72, 73, 74] rfl (by decide +kernel)
set_option maxRecDepth 20000 in
theorem gX2_keepWhatStands_X3_settle : GoodIn wsX2_keepWhatStands (wsV RX2 135 RX3 yX3_settle wsX3_settle) := goodIn_app (goodIn_of _ (by decide +kernel)) ggX2_keepWhatStands_X3_settle
set_option maxRecDepth 20000 in
theorem ggX2_leavesLike_X3_standing : GoodIn wsX2_leavesLike wsX3_standing := goodIn_r _ [8, 9, 10, 11, 12, 13, 14, 15, 16, 17, 18, 19, 20, 21, 22, 7, 23, 24, 38, 39, 40, 41, 42, 43, 44, 45, 46, 47, 48, 49, 50, 51, 52, 53, 54, 55, 56, 57, 58] rfl (by decide +kernel)
set_option maxRecDepth 20000 in
theorem gX2_leavesLike_X3_standing : GoodIn wsX2_leavesLike (wsV RX2 138 RX3 yX3_standing wsX3_standing) := goodIn_app (goodIn_of _ (by decide +kernel)) ggX2_leavesLike_X3_standing
set_option maxRecDepth 20000 in
theorem ggX2_total_X3_failures : GoodIn wsX2_total wsX3_failures := goodIn_r _ [13, 14, 28, 29, 30, 31, 32, 33, 34, 35, 36, 37, 38, 39, 40, 41] rfl (by decide +kernel)
set_option maxRecDepth 20000 in
theorem gX2_total_X3_failures : GoodIn wsX2_total (wsV RX2 145 RX3 yX3_failures wsX3_failures) := goodIn_app (goodIn_of _ (by decide +kernel)) ggX2_total_X3_failures
set_option maxRecDepth 20000 in
theorem ggX3_standing_X3_hasEnded : GoodIn wsX3_standing wsX3_hasEnded := goodIn_r _ [16, 17, 18, 19, 20, 21, 22, 23, 24, 25, 26, 27, 28, 29, 30, 31] rfl (by decide +kernel)
set_option maxRecDepth 20000 in
theorem gX3_standing_X3_hasEnded : GoodIn wsX3_standing (wsV RX3 63 RX3 yX3_hasEnded wsX3_hasEnded) := goodIn_app (goodIn_of _ (by decide +kernel)) ggX3_standing_X3_hasEnded
set_option maxRecDepth 20000 in
theorem ggX3_setUnderWay_X3_standing : GoodIn wsX3_setUnderWay wsX3_standing := goodIn_r _ [13, 14, 15, 16, 17, 18, 3, 6, 19, 20, 8, 21, 22, 23, 24, 12, 25, 1, 26, 27, 28, 29, 30, 31, 32, 33, 34, 35, 36, 37, 38, 39, 40, 41, 42, 43, 44, 45, 46] rfl (by decide +kernel)
set_option maxRecDepth 20000 in
theorem gX3_setUnderWay_X3_standing : GoodIn wsX3_setUnderWay (wsV RX3 81 RX3 yX3_standing wsX3_standing) := goodIn_app (goodIn_of _ (by decide +kernel)) ggX3_setUnderWay_X3_standing
set_option maxRecDepth 20000 in
theorem ggX3_doesLastStep_X3_work : GoodIn wsX3_doesLastStep wsX3_work := goodIn_r _ [8, 9, 10, 11, 12, 13, 14, 15, 16, 17, 18, 19, 7, 20, 21, 22, 23, 24, 25, 26, 27, 28, 29, 30, 31, 32, 33, 34, 35, 36, 37, 38, 39, 40, 41, 42, 43, 44, 45, 46, 47, 48, 49, 50, 51, 52, 53, 54, 55, 56, 57, 58, 59, 60, 61] rfl (by decide +kernel)
set_option maxRecDepth 20000 in
theorem gX3_doesLastStep_X3_work : GoodIn wsX3_doesLastStep (wsV RX3 85 RX3 yX3_work wsX3_work) := goodIn_app (goodIn_of _ (by decide +kernel)) ggX3_doesLastStep_X3_work
set_option maxRecDepth 20000 in
theorem ggX3_waitsToBeKept_X4_within : GoodIn wsX3_waitsToBeKept wsX4_within := goodIn_r _ [4] rfl (by decide +kernel)
set_option maxRecDepth 20000 in
theorem gX3_waitsToBeKept_X4_within_n89 : GoodIn wsX3_waitsToBeKept (wsX4_within) := ggX3_waitsToBeKept_X4_within
set_option maxRecDepth 20000 in
theorem ggX3_settle_X3_standing : GoodIn wsX3_settle wsX3_standing := goodIn_r _ [12, 13, 14, 15, 16, 17, 2, 3, 18, 19, 5, 20, 21, 22, 23, 11, 24, 6, 25, 26, 27, 28, 29, 30, 31, 32, 33, 34, 35, 36, 37, 38, 39, 40, 41, 42, 43, 44, 45] rfl (by decide +kernel)
set_option maxRecDepth 20000 in
theorem gX3_settle_X3_standing : GoodIn wsX3_settle (wsV RX3 81 RX3 yX3_standing wsX3_standing) := goodIn_app (goodIn_of _ (by decide +kernel)) ggX3_settle_X3_standing
set_option maxRecDepth 20000 in
theorem ggX3_work_X3_giveB : GoodIn wsX3_work wsX3_giveB := goodIn_r _ [13, 7, 14, 34, 35, 36, 37, 38, 39, 40, 41, 42, 43, 44, 45, 46, 47] rfl (by decide +kernel)
set_option maxRecDepth 20000 in
theorem gX3_work_X3_giveB : GoodIn wsX3_work (wsV RX3 99 RX3 yX3_giveB wsX3_giveB) := goodIn_app (goodIn_of _ (by decide +kernel)) ggX3_work_X3_giveB
set_option maxRecDepth 20000 in
theorem ggX3_work_X3_pay : GoodIn wsX3_work wsX3_pay := goodIn_r _ [18, 5, 3, 19, 20, 21, 22, 23, 12, 24, 25, 26, 27, 28, 6, 29, 9, 10, 11, 13, 7, 14, 34, 35, 36, 37, 38, 39, 40, 41, 42, 43, 44, 45, 46, 47, 48, 49, 50, 51, 52, 53, 54] rfl (by decide +kernel)
set_option maxRecDepth 20000 in
theorem gX3_work_X3_pay : GoodIn wsX3_work (wsV RX3 103 RX3 yX3_pay wsX3_pay) := goodIn_app (goodIn_of _ (by decide +kernel)) ggX3_work_X3_pay
set_option maxRecDepth 20000 in
theorem ggX3_work_X3_failUnless : GoodIn wsX3_work wsX3_failUnless := goodIn_r _ [24, 5, 34, 35, 36, 37, 38, 39, 40, 41, 42, 43, 44, 45, 46, 47] rfl (by decide +kernel)
set_option maxRecDepth 20000 in
theorem gX3_work_X3_failUnless : GoodIn wsX3_work (wsV RX3 107 RX3 yX3_failUnless wsX3_failUnless) := goodIn_app (goodIn_of _ (by decide +kernel)) ggX3_work_X3_failUnless
set_option maxRecDepth 20000 in
theorem ggX3_work_X3_giveA : GoodIn wsX3_work wsX3_giveA := goodIn_r _ [28, 6, 29, 34, 35, 36, 37, 38, 39, 40, 41, 42, 43, 44, 45, 46, 47] rfl (by decide +kernel)
set_option maxRecDepth 20000 in
theorem gX3_work_X3_giveA : GoodIn wsX3_work (wsV RX3 111 RX3 yX3_giveA wsX3_giveA) := goodIn_app (goodIn_of _ (by decide +kernel)) ggX3_work_X3_giveA
set_option maxRecDepth 20000 in
theorem ggX3_work_X3_meet : GoodIn wsX3_work wsX3_meet := goodIn_r _ [33, 21, 22, 23, 12, 24, 5, 9, 10, 11, 13, 7, 14, 34, 35, 36, 37, 38, 39, 40, 41, 42, 43, 44, 45, 46, 47] rfl (by decide +kernel)
set_option maxRecDepth 20000 in
theorem gX3_work_X3_meet : GoodIn wsX3_work (wsV RX3 114 RX3 yX3_meet wsX3_meet) := goodIn_app (goodIn_of _ (by decide +kernel)) ggX3_work_X3_meet
set_option maxRecDepth 20000 in
theorem ggX3_pay_X3_failUnless : GoodIn wsX3_pay wsX3_failUnless := goodIn_r _ [9, 1, 22, 23, 24, 25, 26, 27, 28, 29, 30, 31, 32, 33, 34, 35] rfl (by decide +kernel)
set_option maxRecDepth 20000 in
theorem gX3_pay_X3_failUnless : GoodIn wsX3_pay (wsV RX3 107 RX3 yX3_failUnless wsX3_failUnless) := goodIn_app (goodIn_of _ (by decide +kernel)) ggX3_pay_X3_failUnless
set_option maxRecDepth 20000 in
theorem ggX3_pay_X3_giveA : GoodIn wsX3_pay wsX3_giveA := goodIn_r _ [13, 14, 15, 22, 23, 24, 25, 26, 27, 28, 29, 30, 31, 32, 33, 34, 35] rfl (by decide +kernel)
set_option maxRecDepth 20000 in
theorem gX3_pay_X3_giveA : GoodIn wsX3_pay (wsV RX3 111 RX3 yX3_giveA wsX3_giveA) := goodIn_app (goodIn_of _ (by decide +kernel)) ggX3_pay_X3_giveA
set_option maxRecDepth 20000 in
theorem ggX3_pay_X3_giveB : GoodIn wsX3_pay wsX3_giveB := goodIn_r _ [19, 20, 21, 22, 23, 24, 25, 26, 27, 28, 29, 30, 31, 32, 33, 34, 35] rfl (by decide +kernel)
set_option maxRecDepth 20000 in
theorem gX3_pay_X3_giveB : GoodIn wsX3_pay (wsV RX3 99 RX3 yX3_giveB wsX3_giveB) := goodIn_app (goodIn_of _ (by decide +kernel)) ggX3_pay_X3_giveB
set_option maxRecDepth 20000 in
theorem ggX3_meet_X3_failUnless : GoodIn wsX3_meet wsX3_failUnless := goodIn_r _ [5, 6, 13, 14, 15, 16, 17, 18, 19, 20, 21, 22, 23, 24, 25, 26] rfl (by decide +kernel)
set_option maxRecDepth 20000 in
theorem gX3_meet_X3_failUnless : GoodIn wsX3_meet (wsV RX3 107 RX3 yX3_failUnless wsX3_failUnless) := goodIn_app (goodIn_of _ (by decide +kernel)) ggX3_meet_X3_failUnless
set_option maxRecDepth 20000 in
theorem ggX3_meet_X3_giveB : GoodIn wsX3_meet wsX3_giveB := goodIn_r _ [10, 11, 12, 13, 14, 15, 16, 17, 18, 19, 20, 21, 22, 23, 24, 25, 26] rfl (by decide +kernel)
set_option maxRecDepth 20000 in
theorem gX3_meet_X3_giveB : GoodIn wsX3_meet (wsV RX3 99 RX3 yX3_giveB wsX3_giveB) := goodIn_app (goodIn_of _ (by decide +kernel)) ggX3_meet_X3_giveB
set_option maxRecDepth 20000 in
theorem ggX4_init_X0_init : GoodIn wsX4_init wsX0_init := goodIn_r _ [15, 16, 2, 3, 17, 18, 19, 20, 21, 22, 23, 63, 64, 65, 66, 67, 68, 69] rfl (by decide +kernel)
set_option maxRecDepth 20000 in
theorem gX4_init_X0_init_n9 : GoodIn wsX4_init (wsX0_init) := ggX4_init_X0_init
set_option maxRecDepth 20000 in
theorem ggX4_init_X2_init : GoodIn wsX4_init wsX2_init := goodIn_r _ [26, 27, 2, 3, 28, 29, 30, 31, 32, 33, 34, 35, 36, 37, 38, 39, 17, 40, 41, 42, 43, 44, 45, 46, 47, 48, 49, 50, 51, 52, 53, 54, 55, 56, 57, 58, 59, 60, 61, 62, 90, 91, 92, 93, 94, 77, 78, 79, 80, 81, 82, 83, 84, 85, 86, 87, 88, 89, 95, 96, 97, 98, 99, 100, 101, 102, 103, 104, 105, 106, 107, 108] rfl (by decide +kernel)
set_option maxRecDepth 20000 in
theorem gX4_init_X2_init : GoodIn wsX4_init (wsX2_init) := ggX4_init_X2_init
set_option maxRecDepth 20000 in
theorem ggX4_call_X4_within : GoodIn wsX4_call wsX4_within := goodIn_r _ [7] rfl (by decide +kernel)
set_option maxRecDepth 20000 in
theorem gX4_call_X4_within : GoodIn wsX4_call (va_wsS RX4 31 yX4_within wsX4_within) := goodIn_app (goodIn_of _ (by decide +kernel)) ggX4_call_X4_within
set_option maxRecDepth 20000 in
theorem ggX4_call_X0_enter : GoodIn wsX4_call wsX0_enter := goodIn_r _ [12, 13, 14, 15, 16, 17, 18, 5, 6, 7, 26, 27, 28, 29, 30, 31, 32] rfl (by decide +kernel)
set_option maxRecDepth 20000 in
theorem gX4_call_X0_enter : GoodIn wsX4_call (wsV RX4 37 RX0 yX0_enter wsX0_enter) := goodIn_app (goodIn_of _ (by decide +kernel)) ggX4_call_X0_enter
set_option maxRecDepth 20000 in
theorem ggX4_gone_X4_within : GoodIn wsX4_gone wsX4_within := goodIn_r _ [6] rfl (by decide +kernel)
set_option maxRecDepth 20000 in
theorem gX4_gone_X4_within : GoodIn wsX4_gone (va_wsS RX4 31 yX4_within wsX4_within) := goodIn_app (goodIn_of _ (by decide +kernel)) ggX4_gone_X4_within
set_option maxRecDepth 20000 in
theorem ggX4_run_X4_within : GoodIn wsX4_run wsX4_within := goodIn_r _ [12] rfl (by decide +kernel)
set_option maxRecDepth 20000 in
theorem gX4_run_X4_within : GoodIn wsX4_run (va_wsS RX4 31 yX4_within wsX4_within) := goodIn_app (goodIn_of _ (by decide +kernel)) ggX4_run_X4_within
set_option maxRecDepth 20000 in
theorem ggX4_run_X4_isCrew : GoodIn wsX4_run wsX4_isCrew := goodIn_r _ [15, 9, 10, 11, 12] rfl (by decide +kernel)
set_option maxRecDepth 20000 in
theorem gX4_run_X4_isCrew : GoodIn wsX4_run (va_wsS RX4 59 yX4_isCrew wsX4_isCrew) := goodIn_app (goodIn_of _ (by decide +kernel)) ggX4_run_X4_isCrew
set_option maxRecDepth 20000 in
theorem ggX4_run_X2_goesThrough : GoodIn wsX4_run wsX2_goesThrough := goodIn_r _ [20, 21, 22, 23, 24, 25, 26, 27, 28, 29, 30, 31, 32, 33, 34, 19, 35, 36, 37, 38, 39, 40, 41, 42, 43, 44, 45, 46, 47, 48, 49, 50, 51, 52, 53, 54, 55, 56, 57, 58, 59, 60, 61, 62, 63, 64, 65, 66, 67, 68, 69, 70, 71, 72, 73, 74, 75, 10, 11, 12, 76, 77, 78, 79, 80, 81, 82, 83, 84, 85, 86, 87, 88, 89, 90, 91, 92, 93, 94, 95, 96, 97, 98, 99, 100, 101, 102, 103, 104, 105, 106, 107, 108, 109, 110, 111, 112, 113, 114, 115, 116, 117, 118, 119, 120, 121, 122, 123, 124, 125, 126, 127, 128, 129, 130, 131, 132, 133, 134, 135, 136, 137, 138, 139, 140, 141, 142, 143, 144, 145, 146, 147, 148, 149, 150, 151, 152, 153, 154, 155, 156, 157, 158, 159, 160, 161, 162, 163, 164, 165, 180, 181, 182, 183, 184, 185, 186, 187, 188, 189, 190, 191, 192, 193, 194, 195, 196, 197, 198, 199, 200, 201, 202, 203, 204, 205, 206, 207, 208, 209, 210, 211, 173, 174, 175, 176, 177, 178, 179] rfl (by decide +kernel)
set_option maxRecDepth 20000 in
theorem gX4_run_X2_goesThrough : GoodIn wsX4_run (wsV RX4 63 RX2 yX2_goesThrough wsX2_goesThrough) := goodIn_app (goodIn_of _ (by decide +kernel)) ggX4_run_X2_goesThrough
set_option maxRecDepth 20000 in
theorem ggX4_amount_X4_within : GoodIn wsX4_amount wsX4_within := goodIn_r _ [8] rfl (by decide +kernel)
set_option maxRecDepth 20000 in
theorem gX4_amount_X4_within : GoodIn wsX4_amount (va_wsS RX4 31 yX4_within wsX4_within) := goodIn_app (goodIn_of _ (by decide +kernel)) ggX4_amount_X4_within
set_option maxRecDepth 20000 in
theorem ggX4_amount_X3_standing : GoodIn wsX4_amount wsX3_standing := goodIn_r _ [13, 14, 15, 16, 17, 18, 19, 20, 21, 22, 23, 24, 25, 26, 27, 12, 28, 29, 50, 51, 52, 53, 54, 55, 56, 57, 58, 59, 60, 61, 62, 63, 64, 65, 66, 67, 68, 69, 70] rfl (by decide +kernel)
set_option maxRecDepth 20000 in
theorem gX4_amount_X3_standing : GoodIn wsX4_amount (wsV RX4 77 RX3 yX3_standing wsX3_standing) := goodIn_app (goodIn_of _ (by decide +kernel)) ggX4_amount_X3_standing
set_option maxRecDepth 20000 in
theorem ggX4_behind_X4_within : GoodIn wsX4_behind wsX4_within := goodIn_r _ [10] rfl (by decide +kernel)
set_option maxRecDepth 20000 in
theorem gX4_behind_X4_within : GoodIn wsX4_behind (va_wsS RX4 31 yX4_within wsX4_within) := goodIn_app (goodIn_of _ (by decide +kernel)) ggX4_behind_X4_within
set_option maxRecDepth 20000 in
theorem ggX4_behind_X3_standing : GoodIn wsX4_behind wsX3_standing := goodIn_r _ [15, 16, 17, 18, 19, 20, 21, 22, 23, 24, 25, 26, 27, 28, 29, 14, 30, 31, 52, 53, 54, 55, 56, 57, 58, 59, 60, 61, 62, 63, 64, 65, 66, 67, 68, 69, 70, 71, 72] rfl (by decide +kernel)
set_option maxRecDepth 20000 in
theorem gX4_behind_X3_standing : GoodIn wsX4_behind (wsV RX4 77 RX3 yX3_standing wsX3_standing) := goodIn_app (goodIn_of _ (by decide +kernel)) ggX4_behind_X3_standing
set_option maxRecDepth 20000 in
theorem ggX4_outcome_X4_isCall : GoodIn wsX4_outcome wsX4_isCall := goodIn_r _ [8, 9, 10, 11, 12, 7, 13, 20, 21, 22, 23, 24, 25, 26, 54, 55, 56, 57, 58, 59, 60] rfl (by decide +kernel)
set_option maxRecDepth 20000 in
theorem gX4_outcome_X4_isCall : GoodIn wsX4_outcome (wsV RX4 87 RX4 yX4_isCall wsX4_isCall) := goodIn_app (goodIn_of _ (by decide +kernel)) ggX4_outcome_X4_isCall
set_option maxRecDepth 20000 in
theorem ggX4_outcome_X4_wasInLatest : GoodIn wsX4_outcome wsX4_wasInLatest := goodIn_r _ [17, 18, 1, 19, 11, 12, 7, 13, 20, 21, 22, 23, 24, 25, 26, 27, 28, 29, 30, 31, 32, 33, 34, 35, 36, 37, 38, 39] rfl (by decide +kernel)
set_option maxRecDepth 20000 in
theorem gX4_outcome_X4_wasInLatest : GoodIn wsX4_outcome (wsV RX4 90 RX4 yX4_wasInLatest wsX4_wasInLatest) := goodIn_app (goodIn_of _ (by decide +kernel)) ggX4_outcome_X4_wasInLatest
set_option maxRecDepth 20000 in
theorem ggX4_of_X4_isCall : GoodIn wsX4_of wsX4_isCall := goodIn_r _ [7, 8, 9, 10, 11, 6, 12, 28, 29, 30, 31, 32, 33, 34, 48, 49, 50, 51, 52, 53, 54] rfl (by decide +kernel)
set_option maxRecDepth 20000 in
theorem gX4_of_X4_isCall : GoodIn wsX4_of (wsV RX4 87 RX4 yX4_isCall wsX4_isCall) := goodIn_app (goodIn_of _ (by decide +kernel)) ggX4_of_X4_isCall
set_option maxRecDepth 20000 in
theorem ggX4_of_X4_within : GoodIn wsX4_of wsX4_within := goodIn_r _ [12] rfl (by decide +kernel)
set_option maxRecDepth 20000 in
theorem gX4_of_X4_within : GoodIn wsX4_of (va_wsS RX4 31 yX4_within wsX4_within) := goodIn_app (goodIn_of _ (by decide +kernel)) ggX4_of_X4_within
set_option maxRecDepth 20000 in
theorem ggX4_of_X4_wasInLatest : GoodIn wsX4_of wsX4_wasInLatest := goodIn_r _ [16, 17, 1, 18, 10, 11, 6, 12, 28, 29, 30, 31, 32, 33, 34, 35, 36, 37, 38, 39, 40, 41, 42, 43, 44, 45, 46, 47] rfl (by decide +kernel)
set_option maxRecDepth 20000 in
theorem gX4_of_X4_wasInLatest : GoodIn wsX4_of (wsV RX4 90 RX4 yX4_wasInLatest wsX4_wasInLatest) := goodIn_app (goodIn_of _ (by decide +kernel)) ggX4_of_X4_wasInLatest
set_option maxRecDepth 20000 in
theorem ggX4_of_X3_figure : GoodIn wsX4_of wsX3_figure := goodIn_r _ [23, 24, 25, 26, 27, 55, 56, 57, 58, 59, 60, 61, 62, 63, 64, 65, 66, 67, 68] rfl (by decide +kernel)
set_option maxRecDepth 20000 in
theorem gX4_of_X3_figure : GoodIn wsX4_of (wsV RX4 96 RX3 yX3_figure wsX3_figure) := goodIn_app (goodIn_of _ (by decide +kernel)) ggX4_of_X3_figure
set_option maxRecDepth 20000 in
theorem ggX4_told_X4_within : GoodIn wsX4_told wsX4_within := goodIn_r _ [6] rfl (by decide +kernel)
set_option maxRecDepth 20000 in
theorem gX4_told_X4_within : GoodIn wsX4_told (va_wsS RX4 31 yX4_within wsX4_within) := goodIn_app (goodIn_of _ (by decide +kernel)) ggX4_told_X4_within
set_option maxRecDepth 20000 in
theorem ggX4_told_X2_total : GoodIn wsX4_told wsX2_total := goodIn_r _ [11, 12, 13, 14, 15, 16, 17, 18, 19, 20, 21, 22, 23, 24, 25, 33, 34, 35, 36, 37, 38, 39, 40, 41, 42, 43, 44, 45, 46, 47, 48, 49, 50, 51, 52, 53, 54, 55, 56, 57, 58, 59] rfl (by decide +kernel)
set_option maxRecDepth 20000 in
theorem gX4_told_X2_total : GoodIn wsX4_told (wsV RX4 100 RX2 yX2_total wsX2_total) := goodIn_app (goodIn_of _ (by decide +kernel)) ggX4_told_X2_total
set_option maxRecDepth 20000 in
theorem ggX4_same_X4_isCrew : GoodIn wsX4_same wsX4_isCrew := goodIn_r _ [8, 9, 10, 7, 11] rfl (by decide +kernel)
set_option maxRecDepth 20000 in
theorem gX4_same_X4_isCrew : GoodIn wsX4_same (va_wsS RX4 59 yX4_isCrew wsX4_isCrew) := goodIn_app (goodIn_of _ (by decide +kernel)) ggX4_same_X4_isCrew
set_option maxRecDepth 20000 in
theorem ggX4_same_X2_goesThrough : GoodIn wsX4_same wsX2_goesThrough := goodIn_r _ [16, 17, 18, 19, 20, 21, 22, 23, 24, 25, 26, 27, 28, 29, 30, 15, 31, 32, 33, 34, 35, 36, 37, 38, 39, 40, 41, 42, 43, 44, 45, 46, 47, 48, 49, 50, 51, 52, 53, 54, 55, 56, 57, 58, 59, 60, 61, 62, 63, 64, 65, 66, 67, 68, 69, 70, 71, 10, 7, 11, 72, 73, 74, 75, 76, 77, 78, 79, 80, 81, 82, 83, 84, 85, 86, 87, 88, 89, 90, 91, 92, 93, 94, 95, 96, 97, 98, 99, 100, 101, 102, 103, 104, 105, 106, 107, 108, 109, 110, 111, 112, 113, 114, 115, 116, 117, 118, 119, 120, 121, 122, 123, 124, 125, 126, 127, 128, 129, 130, 131, 132, 133, 134, 135, 136, 137, 138, 139, 140, 141, 142, 143, 144, 145, 146, 147, 148, 149, 150, 151, 152, 153, 154, 155, 156, 157, 158, 159, 160, 161, 182, 183, 184, 185, 186, 187, 188, 189, 190, 191, 192, 193, 194, 195, 196, 197, 198, 199, 200, 201, 202, 203, 204, 205, 206, 207, 208, 209, 210, 211, 212, 213, 175, 176, 177, 178, 179, 180, 181] rfl (by decide +kernel)
set_option maxRecDepth 20000 in
theorem gX4_same_X2_goesThrough : GoodIn wsX4_same (wsV RX4 63 RX2 yX2_goesThrough wsX2_goesThrough) := goodIn_app (goodIn_of _ (by decide +kernel)) ggX4_same_X2_goesThrough
set_option maxRecDepth 20000 in
theorem ggX4_same_X2_leavesLike : GoodIn wsX4_same wsX2_leavesLike := goodIn_r _ [165, 19, 37, 166, 167, 108, 109, 41, 110, 111, 56, 26, 57, 112, 101, 104, 113, 114, 106, 115, 116, 117, 118, 119, 43, 182, 183, 184, 185, 186, 187, 188, 189, 190, 191, 192, 193, 194, 200, 201, 202, 203, 204, 205, 206, 207, 208, 209, 210, 211, 212, 213, 175, 176, 177, 178, 179, 180, 181] rfl (by decide +kernel)
set_option maxRecDepth 20000 in
theorem gX4_same_X2_leavesLike : GoodIn wsX4_same (wsV RX4 104 RX2 yX2_leavesLike wsX2_leavesLike) := goodIn_app (goodIn_of _ (by decide +kernel)) ggX4_same_X2_leavesLike
set_option maxRecDepth 20000 in
theorem ggX4_isCall_X4_within : GoodIn wsX4_isCall wsX4_within := goodIn_r _ [6] rfl (by decide +kernel)
set_option maxRecDepth 20000 in
theorem gX4_isCall_X4_within : GoodIn wsX4_isCall (va_wsS RX4 31 yX4_within wsX4_within) := goodIn_app (goodIn_of _ (by decide +kernel)) ggX4_isCall_X4_within
set_option maxRecDepth 20000 in
theorem ggX4_wasInLatest_X4_within : GoodIn wsX4_wasInLatest wsX4_within := goodIn_r _ [7] rfl (by decide +kernel)
set_option maxRecDepth 20000 in
theorem gX4_wasInLatest_X4_within : GoodIn wsX4_wasInLatest (va_wsS RX4 31 yX4_within wsX4_within) := goodIn_app (goodIn_of _ (by decide +kernel)) ggX4_wasInLatest_X4_within
set_option maxRecDepth 20000 in
theorem ggX4_isCrew_X4_within : GoodIn wsX4_isCrew wsX4_within := goodIn_r _ [4] rfl (by decide +kernel)
set_option maxRecDepth 20000 in
theorem gX4_isCrew_X4_within : GoodIn wsX4_isCrew (va_wsS RX4 31 yX4_within wsX4_within) := goodIn_app (goodIn_of _ (by decide +kernel)) ggX4_isCrew_X4_within
set_option maxRecDepth 20000 in
theorem ggX5_call_X5_in : GoodIn wsX5_call wsX5_in := goodIn_r _ [13] rfl (by decide +kernel)
set_option maxRecDepth 20000 in
theorem gX5_call_X5_in : GoodIn wsX5_call (va_wsS RX5 119 yX5_in wsX5_in) := goodIn_app (goodIn_of _ (by decide +kernel)) ggX5_call_X5_in
set_option maxRecDepth 20000 in
theorem ggX5_gone_X5_in : GoodIn wsX5_gone wsX5_in := goodIn_r _ [6] rfl (by decide +kernel)
set_option maxRecDepth 20000 in
theorem gX5_gone_X5_in : GoodIn wsX5_gone (va_wsS RX5 119 yX5_in wsX5_in) := goodIn_app (goodIn_of _ (by decide +kernel)) ggX5_gone_X5_in
set_option maxRecDepth 20000 in
theorem ggX5_take_X5_reads : GoodIn wsX5_take wsX5_reads := goodIn_r _ [18, 7, 19, 11, 20, 21, 9, 22, 23, 24, 25, 26, 27, 28, 29, 30, 31, 32, 33, 34, 35, 36, 37, 38, 39, 40, 41, 42, 43, 44, 45, 46, 47, 48, 49, 50, 51, 52, 53, 54, 55, 56, 57, 58, 59, 60] rfl (by decide +kernel)
set_option maxRecDepth 20000 in
theorem gX5_take_X5_reads : GoodIn wsX5_take (wsV RX5 128 RX5 yX5_reads wsX5_reads) := goodIn_app (goodIn_of _ (by decide +kernel)) ggX5_take_X5_reads
set_option maxRecDepth 20000 in
theorem ggX5_step_X5_work : GoodIn wsX5_step wsX5_work := goodIn_r _ [10, 11, 12, 13, 14, 15, 16, 17, 18, 19, 20, 21, 22, 23, 24, 25, 26, 27, 28, 29, 30, 31, 32, 33, 34, 35, 36, 37, 38, 39, 40, 41, 42, 43, 44, 45, 46, 47, 48, 49, 50, 51, 52, 53, 54, 55, 56, 57, 58, 59] rfl (by decide +kernel)
set_option maxRecDepth 20000 in
theorem gX5_step_X5_work : GoodIn wsX5_step (wsV RX5 132 RX5 yX5_work wsX5_work) := goodIn_app (goodIn_of _ (by decide +kernel)) ggX5_step_X5_work
set_option maxRecDepth 20000 in
theorem ggX5_goes_X5_begin : GoodIn wsX5_goes wsX5_begin := goodIn_r _ [8, 1, 9, 10, 11, 12, 13, 14, 15, 3, 16, 17, 63, 64, 65, 66, 67, 68, 69, 70, 71, 72, 73, 74, 75, 76, 77, 78, 79, 80, 81, 82, 83, 84, 85, 86, 87, 88, 89, 90, 91, 92, 93, 94, 95, 96, 97, 98, 99, 100] rfl (by decide +kernel)
set_option maxRecDepth 20000 in
theorem gX5_goes_X5_begin : GoodIn wsX5_goes (wsV RX5 136 RX5 yX5_begin wsX5_begin) := goodIn_app (goodIn_of _ (by decide +kernel)) ggX5_goes_X5_begin
set_option maxRecDepth 20000 in
theorem ggX5_goes_X5_turnOf : GoodIn wsX5_goes wsX5_turnOf := goodIn_r _ [21, 17, 63, 64, 65, 66, 67, 68, 69, 70, 71, 72, 73, 74, 75, 76, 77, 78, 79, 80, 81, 82, 83, 84, 85, 86, 87, 88, 89, 90, 91, 92, 93, 94, 95, 96, 97, 98, 99, 100] rfl (by decide +kernel)
set_option maxRecDepth 20000 in
theorem gX5_goes_X5_turnOf : GoodIn wsX5_goes (wsV RX5 141 RX5 yX5_turnOf wsX5_turnOf) := goodIn_app (goodIn_of _ (by decide +kernel)) ggX5_goes_X5_turnOf
set_option maxRecDepth 20000 in
theorem ggX5_goes_X5_step : GoodIn wsX5_goes wsX5_step := goodIn_r _ [25, 3, 26, 27, 10, 14, 28, 29, 30, 7, 31, 32, 33, 34, 35, 36, 37, 38, 39, 40, 41, 15, 63, 64, 65, 66, 67, 68, 69, 70, 71, 72, 73, 74, 75, 76, 77, 78, 79, 80, 81, 82, 83, 84, 85, 86, 87, 88, 89, 90, 91, 92, 93, 94, 95, 96, 97, 98, 99, 100] rfl (by decide +kernel)
set_option maxRecDepth 20000 in
theorem gX5_goes_X5_step : GoodIn wsX5_goes (wsV RX5 145 RX5 yX5_step wsX5_step) := goodIn_app (goodIn_of _ (by decide +kernel)) ggX5_goes_X5_step
set_option maxRecDepth 20000 in
theorem ggX5_goes_X5_openOne : GoodIn wsX5_goes wsX5_openOne := goodIn_r _ [45, 10, 63, 64, 65, 66, 67, 68, 69, 70, 71, 72, 73, 74, 75, 76, 77, 78, 79, 80, 81, 82, 83, 84, 85, 86, 87, 88, 89, 90, 91, 92, 93, 94, 95, 96, 97, 98, 99, 100] rfl (by decide +kernel)
set_option maxRecDepth 20000 in
theorem gX5_goes_X5_openOne : GoodIn wsX5_goes (wsV RX5 148 RX5 yX5_openOne wsX5_openOne) := goodIn_app (goodIn_of _ (by decide +kernel)) ggX5_goes_X5_openOne
set_option maxRecDepth 20000 in
theorem ggX5_goes_X5_take : GoodIn wsX5_goes wsX5_take := goodIn_r _ [49, 11, 1, 12, 16, 50, 17, 10, 32, 39, 33, 40, 3, 26, 51, 52, 53, 7, 54, 36, 38, 35, 41, 63, 64, 65, 66, 67, 68, 69, 70, 71, 72, 73, 74, 75, 76, 77, 78, 79, 80, 81, 82, 83, 84, 85, 86, 87, 88, 89, 90, 91, 92, 93, 94, 95, 96, 97, 98, 99, 100] rfl (by decide +kernel)
set_option maxRecDepth 20000 in
theorem gX5_goes_X5_take : GoodIn wsX5_goes (wsV RX5 151 RX5 yX5_take wsX5_take) := goodIn_app (goodIn_of _ (by decide +kernel)) ggX5_goes_X5_take
set_option maxRecDepth 20000 in
theorem ggX5_goes_X5_keep : GoodIn wsX5_goes wsX5_keep := goodIn_r _ [58, 10, 32, 9, 39, 33, 40, 1, 35, 41, 36, 38, 13, 15, 63, 64, 65, 66, 67, 68, 69, 70, 71, 72, 73, 74, 75, 76, 77, 78, 79, 80, 81, 82, 83, 84, 85, 86, 87, 88, 89, 90, 91, 92, 93, 94, 95, 96, 97, 98, 99, 100] rfl (by decide +kernel)
set_option maxRecDepth 20000 in
theorem gX5_goes_X5_keep : GoodIn wsX5_goes (wsV RX5 155 RX5 yX5_keep wsX5_keep) := goodIn_app (goodIn_of _ (by decide +kernel)) ggX5_goes_X5_keep
set_option maxRecDepth 20000 in
theorem ggX5_goes_X5_underWay : GoodIn wsX5_goes wsX5_underWay := goodIn_r _ [62, 10, 63, 64, 65, 66, 67, 68, 69, 70, 71, 72, 73, 74, 75, 76, 77, 78, 79, 80, 81, 82, 83, 84, 85, 86, 87, 88, 89, 90, 91, 92, 93, 94, 95, 96, 97, 98, 99, 100] rfl (by decide +kernel)
set_option maxRecDepth 20000 in
theorem gX5_goes_X5_underWay : GoodIn wsX5_goes (wsV RX5 159 RX5 yX5_underWay wsX5_underWay) := goodIn_app (goodIn_of _ (by decide +kernel)) ggX5_goes_X5_underWay
set_option maxRecDepth 20000 in
theorem ggX5_run_X5_in : GoodIn wsX5_run wsX5_in := goodIn_r _ [23] rfl (by decide +kernel)
set_option maxRecDepth 20000 in
theorem gX5_run_X5_in : GoodIn wsX5_run (va_wsS RX5 119 yX5_in wsX5_in) := goodIn_app (goodIn_of _ (by decide +kernel)) ggX5_run_X5_in
set_option maxRecDepth 20000 in
theorem ggX5_run_X5_goes : GoodIn wsX5_run wsX5_goes := goodIn_r _ [27, 7, 28, 29, 30, 31, 32, 22, 33, 19, 34, 9, 11, 13, 15, 17, 35, 36, 37, 38, 39, 40, 41, 42, 43, 44, 45, 46, 47, 48, 49, 50, 51, 52, 53, 54, 55, 56, 57, 58, 59, 60, 61, 62, 63, 64, 65, 66, 67, 68, 69, 70, 71, 72, 73, 74, 75, 76, 77, 78, 79, 80, 81, 82, 83, 84, 85, 86, 87, 88, 89, 90, 91, 92, 93, 94, 95, 96, 97, 98, 99, 100, 101, 102, 103, 104, 105, 106, 107, 108, 109, 110, 111, 112, 113, 114, 115, 116, 117, 118, 119] rfl (by decide +kernel)
set_option maxRecDepth 20000 in
theorem gX5_run_X5_goes : GoodIn wsX5_run (wsV RX5 163 RX5 yX5_goes wsX5_goes) := goodIn_app (goodIn_of _ (by decide +kernel)) ggX5_run_X5_goes
set_option maxRecDepth 20000 in
theorem ggX5_amount_X5_in : GoodIn wsX5_amount wsX5_in := goodIn_r _ [8] rfl (by decide +kernel)
set_option maxRecDepth 20000 in
theorem gX5_amount_X5_in : GoodIn wsX5_amount (va_wsS RX5 119 yX5_in wsX5_in) := goodIn_app (goodIn_of _ (by decide +kernel)) ggX5_amount_X5_in
set_option maxRecDepth 20000 in
theorem ggX5_behind_X5_in : GoodIn wsX5_behind wsX5_in := goodIn_r _ [10] rfl (by decide +kernel)
set_option maxRecDepth 20000 in
theorem gX5_behind_X5_in : GoodIn wsX5_behind (va_wsS RX5 119 yX5_in wsX5_in) := goodIn_app (goodIn_of _ (by decide +kernel)) ggX5_behind_X5_in
set_option maxRecDepth 20000 in
theorem ggX5_outcome_X5_in : GoodIn wsX5_outcome wsX5_in := goodIn_r _ [7] rfl (by decide +kernel)
set_option maxRecDepth 20000 in
theorem gX5_outcome_X5_in : GoodIn wsX5_outcome (va_wsS RX5 119 yX5_in wsX5_in) := goodIn_app (goodIn_of _ (by decide +kernel)) ggX5_outcome_X5_in
set_option maxRecDepth 20000 in
theorem ggX5_outcome_X5_isOfRun : GoodIn wsX5_outcome wsX5_isOfRun := goodIn_r _ [11, 12, 13, 14, 15, 16, 17, 18, 19, 20, 21, 22, 23, 24, 25, 26, 27, 28, 29, 30, 31, 32, 33, 34, 35, 36, 37, 38, 39, 40, 41, 42, 43, 44, 45, 46, 47, 48, 49, 50, 51] rfl (by decide +kernel)
set_option maxRecDepth 20000 in
theorem gX5_outcome_X5_isOfRun : GoodIn wsX5_outcome (wsV RX5 177 RX5 yX5_isOfRun wsX5_isOfRun) := goodIn_app (goodIn_of _ (by decide +kernel)) ggX5_outcome_X5_isOfRun
set_option maxRecDepth 20000 in
theorem ggX5_of_X5_in : GoodIn wsX5_of wsX5_in := goodIn_r _ [10] rfl (by decide +kernel)
set_option maxRecDepth 20000 in
theorem gX5_of_X5_in : GoodIn wsX5_of (va_wsS RX5 119 yX5_in wsX5_in) := goodIn_app (goodIn_of _ (by decide +kernel)) ggX5_of_X5_in
set_option maxRecDepth 20000 in
theorem ggX5_of_X5_isOfRun : GoodIn wsX5_of wsX5_isOfRun := goodIn_r _ [14, 15, 16, 17, 18, 19, 20, 21, 22, 23, 24, 25, 26, 27, 28, 29, 30, 31, 32, 33, 34, 35, 36, 37, 38, 39, 40, 41, 42, 43, 44, 45, 46, 47, 48, 49, 50, 51, 52, 53, 54] rfl (by decide +kernel)
set_option maxRecDepth 20000 in
theorem gX5_of_X5_isOfRun : GoodIn wsX5_of (wsV RX5 177 RX5 yX5_isOfRun wsX5_isOfRun) := goodIn_app (goodIn_of _ (by decide +kernel)) ggX5_of_X5_isOfRun
set_option maxRecDepth 20000 in
theorem ggX5_told_X5_in : GoodIn wsX5_told wsX5_in := goodIn_r _ [7] rfl (by decide +kernel)
set_option maxRecDepth 20000 in
theorem gX5_told_X5_in : GoodIn wsX5_told (va_wsS RX5 119 yX5_in wsX5_in) := goodIn_app (goodIn_of _ (by decide +kernel)) ggX5_told_X5_in
set_option maxRecDepth 20000 in
theorem ggX5_same_X5_in : GoodIn wsX5_same wsX5_in := goodIn_r _ [10] rfl (by decide +kernel)
set_option maxRecDepth 20000 in
theorem gX5_same_X5_in : GoodIn wsX5_same (va_wsS RX5 119 yX5_in wsX5_in) := goodIn_app (goodIn_of _ (by decide +kernel)) ggX5_same_X5_in
set_option maxRecDepth 20000 in
theorem ggX5_same_X5_goes : GoodIn wsX5_same wsX5_goes := goodIn_r _ [14, 15, 16, 17, 18, 19, 20, 9, 21, 4, 22, 23, 24, 25, 26, 6, 27, 28, 29, 30, 31, 32, 33, 34, 35, 36, 37, 38, 39, 40, 41, 42, 43, 44, 45, 46, 47, 48, 49, 50, 51, 52, 53, 54, 55, 56, 57, 58, 59, 60, 61, 62, 63, 64, 65, 66, 67, 68, 69, 70, 71, 72, 73, 74, 75, 76, 77, 78, 79, 80, 81, 82, 83, 84, 85, 86, 87, 88, 89, 90, 91, 92, 93, 94, 95, 96, 97, 98, 99, 100, 101, 102, 103, 104, 105, 106, 107, 108, 109, 110, 111] rfl (by decide +kernel)
set_option maxRecDepth 20000 in
theorem gX5_same_X5_goes : GoodIn wsX5_same (wsV RX5 163 RX5 yX5_goes wsX5_goes) := goodIn_app (goodIn_of _ (by decide +kernel)) ggX5_same_X5_goes
