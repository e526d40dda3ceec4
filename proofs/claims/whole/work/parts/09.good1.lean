set_option maxRecDepth 20000 in
theorem ggX1_init_X6_init : GoodIn wsX1_init wsX6_init := goodIn_r _ [26, 27, 2, 3, 28, 29, 30, 31, 32, 59, 60, 61, 62, 63] (by decide +kernel) (by decide +kernel)
set_option maxRecDepth 20000 in
theorem gX1_init_X6_init_n29 : GoodIn wsX1_init (wsX6_init) := ggX1_init_X6_init
set_option maxRecDepth 20000 in
theorem ggX1_init_X2_init : GoodIn wsX1_init wsX2_init := goodIn_r _ [34, 35, 2, 3, 28, 36, 37, 38, 39, 40, 41, 42, 43, 64, 65, 66, 67, 68, 69, 70, 71, 72, 73] (by decide +kernel) (by decide +kernel)
set_option maxRecDepth 20000 in
theorem gX1_init_X2_init_n36 : GoodIn wsX1_init (wsX2_init) := ggX1_init_X2_init
set_option maxRecDepth 20000 in
theorem ggX1_init_X5_init : GoodIn wsX1_init wsX5_init := goodIn_r _ [45, 46, 2, 3, 28, 47, 48, 49, 50, 51, 52, 74, 75, 76, 77, 78, 79, 80] (by decide +kernel) (by decide +kernel)
set_option maxRecDepth 20000 in
theorem gX1_init_X5_init_n43 : GoodIn wsX1_init (wsX5_init) := ggX1_init_X5_init
set_option maxRecDepth 20000 in
theorem ggX1_copyFrom_X6_copyFrom : GoodIn wsX1_copyFrom wsX6_copyFrom := goodIn_r _ [15, 16, 17, 18, 4, 5, 6, 19, 20, 21, 57, 58, 59, 60, 61] (by decide +kernel) (by decide +kernel)
set_option maxRecDepth 20000 in
theorem gX1_copyFrom_X6_copyFrom : GoodIn wsX1_copyFrom (wsV RX1 58 RX6 yX6_copyFrom wsX6_copyFrom) := goodIn_app (goodIn_of _ (by decide +kernel)) ggX1_copyFrom_X6_copyFrom
set_option maxRecDepth 20000 in
theorem ggX1_copyFrom_X2_copyFrom : GoodIn wsX1_copyFrom wsX2_copyFrom := goodIn_r _ [26, 27, 28, 29, 30, 4, 5, 6, 31, 32, 33, 34, 35, 36, 37, 62, 63, 64, 65, 66, 67, 68, 69, 70, 71] (by decide +kernel) (by decide +kernel)
set_option maxRecDepth 20000 in
theorem gX1_copyFrom_X2_copyFrom : GoodIn wsX1_copyFrom (wsV RX1 62 RX2 yX2_copyFrom wsX2_copyFrom) := goodIn_app (goodIn_of _ (by decide +kernel)) ggX1_copyFrom_X2_copyFrom
set_option maxRecDepth 20000 in
theorem ggX1_copyFrom_X5_copyFrom : GoodIn wsX1_copyFrom wsX5_copyFrom := goodIn_r _ [42, 43, 44, 45, 4, 5, 6, 46, 47, 48, 49, 50, 72, 73, 74, 75, 76, 77, 78] (by decide +kernel) (by decide +kernel)
set_option maxRecDepth 20000 in
theorem gX1_copyFrom_X5_copyFrom : GoodIn wsX1_copyFrom (wsV RX1 65 RX5 yX5_copyFrom wsX5_copyFrom) := goodIn_app (goodIn_of _ (by decide +kernel)) ggX1_copyFrom_X5_copyFrom
set_option maxRecDepth 20000 in
theorem ggX1_bringTeam_X6_append : GoodIn wsX1_bringTeam wsX6_append := goodIn_r _ [7, 8, 9, 10, 11, 12, 19, 20, 21, 22, 23] (by decide +kernel) (by decide +kernel)
set_option maxRecDepth 20000 in
theorem gX1_bringTeam_X6_append : GoodIn wsX1_bringTeam (wsV RX1 71 RX6 yX6_append wsX6_append) := goodIn_app (goodIn_of _ (by decide +kernel)) ggX1_bringTeam_X6_append
set_option maxRecDepth 20000 in
theorem ggX1_markWeeks_X1_countFrozen : GoodIn wsX1_markWeeks wsX1_countFrozen := goodIn_r _ [7, 2, 8, 9, 10, 11, 12, 13, 14, 15, 16] (by decide +kernel) (by decide +kernel)
set_option maxRecDepth 20000 in
theorem gX1_markWeeks_X1_countFrozen : GoodIn wsX1_markWeeks (wsV RX1 75 RX1 yX1_countFrozen wsX1_countFrozen) := goodIn_app (goodIn_of _ (by decide +kernel)) ggX1_markWeeks_X1_countFrozen
set_option maxRecDepth 20000 in
theorem ggX1_closeWeek_X1_earnAll : GoodIn wsX1_closeWeek wsX1_earnAll := goodIn_r _ [6, 7, 8, 9, 1, 10, 11, 12, 13, 14, 15, 16, 17, 18, 19, 20, 21, 22, 23, 24, 25, 26, 27, 28, 29, 30, 31, 32, 33, 54, 55, 56, 57, 58, 59, 60, 61, 62, 63, 64, 65, 66, 67, 68, 69, 70, 71, 72, 73, 74] (by decide +kernel) (by decide +kernel)
set_option maxRecDepth 20000 in
theorem gX1_closeWeek_X1_earnAll : GoodIn wsX1_closeWeek (wsV RX1 84 RX1 yX1_earnAll wsX1_earnAll) := goodIn_app (goodIn_of _ (by decide +kernel)) ggX1_closeWeek_X1_earnAll
set_option maxRecDepth 20000 in
theorem ggX1_closeWeek_X1_collectDueLoans : GoodIn wsX1_closeWeek wsX1_collectDueLoans := goodIn_r _ [37, 1, 38, 39, 40, 41, 42, 27, 28, 29, 43, 44, 45, 5, 46, 7, 47, 48, 49, 50, 51, 52, 53, 54, 55, 56, 57, 58, 59, 75, 76, 77, 78, 79, 80, 81, 60, 61, 62, 63, 64] (by decide +kernel) (by decide +kernel)
set_option maxRecDepth 20000 in
theorem gX1_closeWeek_X1_collectDueLoans : GoodIn wsX1_closeWeek (wsV RX1 88 RX1 yX1_collectDueLoans wsX1_collectDueLoans) := goodIn_app (goodIn_of _ (by decide +kernel)) ggX1_closeWeek_X1_collectDueLoans
set_option maxRecDepth 20000 in
theorem ggX1_earnAll_X2_hasFault : GoodIn wsX1_earnAll wsX2_hasFault := goodIn_r _ [10, 11, 12, 13, 14, 40, 41, 42, 43, 44, 45, 46, 47, 48, 49] (by decide +kernel) (by decide +kernel)
set_option maxRecDepth 20000 in
theorem gX1_earnAll_X2_hasFault : GoodIn wsX1_earnAll (wsV RX1 91 RX2 yX2_hasFault wsX2_hasFault) := goodIn_app (goodIn_of _ (by decide +kernel)) ggX1_earnAll_X2_hasFault
set_option maxRecDepth 20000 in
theorem ggX1_earnAll_X6_earn : GoodIn wsX1_earnAll wsX6_earn := goodIn_r _ [19, 20, 21, 22, 23, 24, 25, 26, 27, 28, 35, 36, 37, 38, 39] (by decide +kernel) (by decide +kernel)
set_option maxRecDepth 20000 in
theorem gX1_earnAll_X6_earn : GoodIn wsX1_earnAll (wsV RX1 95 RX6 yX6_earn wsX6_earn) := goodIn_app (goodIn_of _ (by decide +kernel)) ggX1_earnAll_X6_earn
set_option maxRecDepth 20000 in
theorem ggX1_collectDueLoans_X1_freeOfTaker : GoodIn wsX1_collectDueLoans wsX1_freeOfTaker := goodIn_r _ [14, 15, 16, 2, 17, 23, 24, 25, 26, 27, 28, 36, 37, 38, 39, 40, 29, 30, 31, 32, 33, 34, 35] (by decide +kernel) (by decide +kernel)
set_option maxRecDepth 20000 in
theorem gX1_collectDueLoans_X1_freeOfTaker : GoodIn wsX1_collectDueLoans (wsV RX1 106 RX1 yX1_freeOfTaker wsX1_freeOfTaker) := goodIn_app (goodIn_of _ (by decide +kernel)) ggX1_collectDueLoans_X1_freeOfTaker
set_option maxRecDepth 20000 in
theorem ggX1_collectDueLoans_X1_payBack : GoodIn wsX1_collectDueLoans wsX1_payBack := goodIn_r _ [21, 2, 5, 15, 16, 17, 22, 23, 24, 25, 26, 27, 28, 29, 30, 31, 32, 33, 34, 35, 36, 37, 38, 39, 40] (by decide +kernel) (by decide +kernel)
set_option maxRecDepth 20000 in
theorem gX1_collectDueLoans_X1_payBack : GoodIn wsX1_collectDueLoans (wsV RX1 115 RX1 yX1_payBack wsX1_payBack) := goodIn_app (goodIn_of _ (by decide +kernel)) ggX1_collectDueLoans_X1_payBack
set_option maxRecDepth 20000 in
theorem ggX1_enterChange_X6_has : GoodIn wsX1_enterChange wsX6_has := goodIn_r _ [9, 10, 49, 50, 51, 52, 53] (by decide +kernel) (by decide +kernel)
set_option maxRecDepth 20000 in
theorem gX1_enterChange_X6_has : GoodIn wsX1_enterChange (wsV RX1 128 RX6 yX6_has wsX6_has) := goodIn_app (goodIn_of _ (by decide +kernel)) ggX1_enterChange_X6_has
set_option maxRecDepth 20000 in
theorem ggX1_enterChange_X8_isRisk : GoodIn wsX1_enterChange wsX8_isRisk := goodIn_r _ [13] (by decide +kernel) (by decide +kernel)
set_option maxRecDepth 20000 in
theorem gX1_enterChange_X8_isRisk_n132 : GoodIn wsX1_enterChange (wsX8_isRisk) := ggX1_enterChange_X8_isRisk
set_option maxRecDepth 20000 in
theorem ggX1_enterChange_X2_append : GoodIn wsX1_enterChange wsX2_append := goodIn_r _ [18, 19, 20, 21, 22, 23, 24, 25, 26, 27, 28, 29, 17, 30, 31, 32, 39, 40, 41, 42, 43, 44, 45, 46, 47, 48] (by decide +kernel) (by decide +kernel)
set_option maxRecDepth 20000 in
theorem gX1_enterChange_X2_append : GoodIn wsX1_enterChange (wsV RX1 136 RX2 yX2_append wsX2_append) := goodIn_app (goodIn_of _ (by decide +kernel)) ggX1_enterChange_X2_append
set_option maxRecDepth 20000 in
theorem ggX1_exemptChange_X2_has : GoodIn wsX1_exemptChange wsX2_has := goodIn_r _ [12, 13, 45, 46, 47, 48, 49, 50, 51, 52, 53, 54] (by decide +kernel) (by decide +kernel)
set_option maxRecDepth 20000 in
theorem gX1_exemptChange_X2_has : GoodIn wsX1_exemptChange (wsV RX1 138 RX2 yX2_has wsX2_has) := goodIn_app (goodIn_of _ (by decide +kernel)) ggX1_exemptChange_X2_has
set_option maxRecDepth 20000 in
theorem ggX1_exemptChange_X1_reasonAgainst : GoodIn wsX1_exemptChange wsX1_reasonAgainst := goodIn_r _ [18, 1, 7, 5, 3, 4, 2, 19, 20, 21, 17, 22, 23, 24, 25, 26, 27, 28, 29, 30, 31, 32, 33, 34, 35, 36, 37, 38, 39, 40, 41, 42, 43, 44, 45, 46, 47, 48, 49, 50, 51, 52, 53, 54, 55, 56, 57, 58, 59, 60, 61, 62, 63, 64, 65, 66] (by decide +kernel) (by decide +kernel)
set_option maxRecDepth 20000 in
theorem gX1_exemptChange_X1_reasonAgainst : GoodIn wsX1_exemptChange (wsV RX1 139 RX1 yX1_reasonAgainst wsX1_reasonAgainst) := goodIn_app (goodIn_of _ (by decide +kernel)) ggX1_exemptChange_X1_reasonAgainst
set_option maxRecDepth 20000 in
theorem ggX1_exemptChange_X1_creditsOf : GoodIn wsX1_exemptChange wsX1_creditsOf := goodIn_r _ [37, 38, 39, 40, 41, 42, 43, 44] (by decide +kernel) (by decide +kernel)
set_option maxRecDepth 20000 in
theorem gX1_exemptChange_X1_creditsOf : GoodIn wsX1_exemptChange (wsV RX1 145 RX1 yX1_creditsOf wsX1_creditsOf) := goodIn_app (goodIn_of _ (by decide +kernel)) ggX1_exemptChange_X1_creditsOf
set_option maxRecDepth 20000 in
theorem ggX1_makeChange_X2_has : GoodIn wsX1_makeChange wsX2_has := goodIn_r _ [21, 22, 48, 49, 50, 51, 52, 53, 54, 55, 56, 57] (by decide +kernel) (by decide +kernel)
set_option maxRecDepth 20000 in
theorem gX1_makeChange_X2_has : GoodIn wsX1_makeChange (wsV RX1 138 RX2 yX2_has wsX2_has) := goodIn_app (goodIn_of _ (by decide +kernel)) ggX1_makeChange_X2_has
set_option maxRecDepth 20000 in
theorem ggX1_makeChange_X2_isOpen : GoodIn wsX1_makeChange wsX2_isOpen := goodIn_r _ [26, 27, 48, 49, 50, 51, 52, 53, 54, 55, 56, 57] (by decide +kernel) (by decide +kernel)
set_option maxRecDepth 20000 in
theorem gX1_makeChange_X2_isOpen : GoodIn wsX1_makeChange (wsV RX1 157 RX2 yX2_isOpen wsX2_isOpen) := goodIn_app (goodIn_of _ (by decide +kernel)) ggX1_makeChange_X2_isOpen
set_option maxRecDepth 20000 in
theorem ggX1_makeChange_X8_asNumber : GoodIn wsX1_makeChange wsX8_asNumber := goodIn_r _ [30] (by decide +kernel) (by decide +kernel)
set_option maxRecDepth 20000 in
theorem gX1_makeChange_X8_asNumber_n166 : GoodIn wsX1_makeChange (wsX8_asNumber) := ggX1_makeChange_X8_asNumber
set_option maxRecDepth 20000 in
theorem ggX1_makeChange_X2_close : GoodIn wsX1_makeChange wsX2_close := goodIn_r _ [34, 35, 27, 36, 37, 38, 20, 39, 40, 41, 48, 49, 50, 51, 52, 53, 54, 55, 56, 57] (by decide +kernel) (by decide +kernel)
set_option maxRecDepth 20000 in
theorem gX1_makeChange_X2_close : GoodIn wsX1_makeChange (wsV RX1 170 RX2 yX2_close wsX2_close) := goodIn_app (goodIn_of _ (by decide +kernel)) ggX1_makeChange_X2_close
set_option maxRecDepth 20000 in
theorem ggX1_dropChange_X2_has : GoodIn wsX1_dropChange wsX2_has := goodIn_r _ [9, 10, 38, 39, 40, 41, 42, 43, 44, 45, 46, 47] (by decide +kernel) (by decide +kernel)
set_option maxRecDepth 20000 in
theorem gX1_dropChange_X2_has : GoodIn wsX1_dropChange (wsV RX1 138 RX2 yX2_has wsX2_has) := goodIn_app (goodIn_of _ (by decide +kernel)) ggX1_dropChange_X2_has
set_option maxRecDepth 20000 in
theorem ggX1_dropChange_X2_isOpen : GoodIn wsX1_dropChange wsX2_isOpen := goodIn_r _ [14, 15, 38, 39, 40, 41, 42, 43, 44, 45, 46, 47] (by decide +kernel) (by decide +kernel)
set_option maxRecDepth 20000 in
theorem gX1_dropChange_X2_isOpen : GoodIn wsX1_dropChange (wsV RX1 157 RX2 yX2_isOpen wsX2_isOpen) := goodIn_app (goodIn_of _ (by decide +kernel)) ggX1_dropChange_X2_isOpen
set_option maxRecDepth 20000 in
theorem ggX1_dropChange_X2_close : GoodIn wsX1_dropChange wsX2_close := goodIn_r _ [19, 20, 15, 21, 22, 23, 8, 24, 25, 26, 38, 39, 40, 41, 42, 43, 44, 45, 46, 47] (by decide +kernel) (by decide +kernel)
set_option maxRecDepth 20000 in
theorem gX1_dropChange_X2_close : GoodIn wsX1_dropChange (wsV RX1 170 RX2 yX2_close wsX2_close) := goodIn_app (goodIn_of _ (by decide +kernel)) ggX1_dropChange_X2_close
set_option maxRecDepth 20000 in
theorem ggX1_lendCredits_X6_has : GoodIn wsX1_lendCredits wsX6_has := goodIn_r _ [10, 11, 46, 47, 48, 49, 50] (by decide +kernel) (by decide +kernel)
set_option maxRecDepth 20000 in
theorem gX1_lendCredits_X6_has : GoodIn wsX1_lendCredits (wsV RX1 128 RX6 yX6_has wsX6_has) := goodIn_app (goodIn_of _ (by decide +kernel)) ggX1_lendCredits_X6_has
set_option maxRecDepth 20000 in
theorem ggX1_lendCredits_X1_owes : GoodIn wsX1_lendCredits wsX1_owes := goodIn_r _ [16, 3, 2, 17, 18, 19, 20, 21, 22, 23, 24, 25, 33, 34, 35, 36, 37, 38, 39, 40, 41, 42, 43, 44, 45] (by decide +kernel) (by decide +kernel)
set_option maxRecDepth 20000 in
theorem gX1_lendCredits_X1_owes : GoodIn wsX1_lendCredits (wsV RX1 176 RX1 yX1_owes wsX1_owes) := goodIn_app (goodIn_of _ (by decide +kernel)) ggX1_lendCredits_X1_owes
set_option maxRecDepth 20000 in
theorem ggX1_lendCredits_X5_append : GoodIn wsX1_lendCredits wsX5_append := goodIn_r _ [29, 22, 30, 23, 31, 24, 25, 32, 39, 40, 41, 42, 43, 44, 45] (by decide +kernel) (by decide +kernel)
set_option maxRecDepth 20000 in
theorem gX1_lendCredits_X5_append : GoodIn wsX1_lendCredits (wsV RX1 179 RX5 yX5_append wsX5_append) := goodIn_app (goodIn_of _ (by decide +kernel)) ggX1_lendCredits_X5_append
set_option maxRecDepth 20000 in
theorem ggX1_repayLoan_X5_has : GoodIn wsX1_repayLoan wsX5_has := goodIn_r _ [7, 8, 28, 29, 30, 31, 32, 33, 34] (by decide +kernel) (by decide +kernel)
set_option maxRecDepth 20000 in
theorem gX1_repayLoan_X5_has : GoodIn wsX1_repayLoan (wsV RX1 182 RX5 yX5_has wsX5_has) := goodIn_app (goodIn_of _ (by decide +kernel)) ggX1_repayLoan_X5_has
set_option maxRecDepth 20000 in
theorem ggX1_repayLoan_X1_freeOfTaker : GoodIn wsX1_repayLoan wsX1_freeOfTaker := goodIn_r _ [13, 14, 15, 1, 16, 22, 23, 24, 25, 26, 27, 35, 36, 37, 38, 39, 28, 29, 30, 31, 32, 33, 34] (by decide +kernel) (by decide +kernel)
set_option maxRecDepth 20000 in
theorem gX1_repayLoan_X1_freeOfTaker : GoodIn wsX1_repayLoan (wsV RX1 106 RX1 yX1_freeOfTaker wsX1_freeOfTaker) := goodIn_app (goodIn_of _ (by decide +kernel)) ggX1_repayLoan_X1_freeOfTaker
set_option maxRecDepth 20000 in
theorem ggX1_repayLoan_X1_payBack : GoodIn wsX1_repayLoan wsX1_payBack := goodIn_r _ [20, 1, 2, 14, 15, 16, 21, 22, 23, 24, 25, 26, 27, 28, 29, 30, 31, 32, 33, 34, 35, 36, 37, 38, 39] (by decide +kernel) (by decide +kernel)
set_option maxRecDepth 20000 in
theorem gX1_repayLoan_X1_payBack : GoodIn wsX1_repayLoan (wsV RX1 115 RX1 yX1_payBack wsX1_payBack) := goodIn_app (goodIn_of _ (by decide +kernel)) ggX1_repayLoan_X1_payBack
set_option maxRecDepth 20000 in
theorem ggX1_owes_X5_isOverdue : GoodIn wsX1_owes wsX5_isOverdue := goodIn_r _ [7, 8, 9, 10, 11, 18, 19, 20, 21, 22, 23, 24] (by decide +kernel) (by decide +kernel)
set_option maxRecDepth 20000 in
theorem gX1_owes_X5_isOverdue : GoodIn wsX1_owes (wsV RX1 183 RX5 yX5_isOverdue wsX5_isOverdue) := goodIn_app (goodIn_of _ (by decide +kernel)) ggX1_owes_X5_isOverdue
set_option maxRecDepth 20000 in
theorem ggX1_reasonAgainst_X1_owes : GoodIn wsX1_reasonAgainst wsX1_owes := goodIn_r _ [11, 12, 13, 14, 15, 16, 17, 18, 19, 20, 21, 22, 28, 29, 30, 31, 32, 33, 49, 50, 51, 52, 53, 54, 55] (by decide +kernel) (by decide +kernel)
set_option maxRecDepth 20000 in
theorem gX1_reasonAgainst_X1_owes : GoodIn wsX1_reasonAgainst (wsV RX1 176 RX1 yX1_owes wsX1_owes) := goodIn_app (goodIn_of _ (by decide +kernel)) ggX1_reasonAgainst_X1_owes
set_option maxRecDepth 20000 in
theorem ggX1_reasonAgainst_X1_creditsOf : GoodIn wsX1_reasonAgainst wsX1_creditsOf := goodIn_r _ [26, 27, 28, 29, 30, 31, 32, 33] (by decide +kernel) (by decide +kernel)
set_option maxRecDepth 20000 in
theorem gX1_reasonAgainst_X1_creditsOf : GoodIn wsX1_reasonAgainst (wsV RX1 145 RX1 yX1_creditsOf wsX1_creditsOf) := goodIn_app (goodIn_of _ (by decide +kernel)) ggX1_reasonAgainst_X1_creditsOf
set_option maxRecDepth 20000 in
theorem ggX1_countExemptible_X1_owes : GoodIn wsX1_countExemptible wsX1_owes := goodIn_r _ [13, 14, 15, 16, 17, 18, 19, 20, 21, 22, 23, 24, 30, 31, 32, 33, 34, 35, 51, 52, 53, 54, 55, 56, 57] (by decide +kernel) (by decide +kernel)
set_option maxRecDepth 20000 in
theorem gX1_countExemptible_X1_owes : GoodIn wsX1_countExemptible (wsV RX1 176 RX1 yX1_owes wsX1_owes) := goodIn_app (goodIn_of _ (by decide +kernel)) ggX1_countExemptible_X1_owes
set_option maxRecDepth 20000 in
theorem ggX1_countExemptible_X1_creditsOf : GoodIn wsX1_countExemptible wsX1_creditsOf := goodIn_r _ [28, 29, 30, 31, 32, 33, 34, 35] (by decide +kernel) (by decide +kernel)
set_option maxRecDepth 20000 in
theorem gX1_countExemptible_X1_creditsOf : GoodIn wsX1_countExemptible (wsV RX1 145 RX1 yX1_creditsOf wsX1_creditsOf) := goodIn_app (goodIn_of _ (by decide +kernel)) ggX1_countExemptible_X1_creditsOf
set_option maxRecDepth 20000 in
theorem ggX1_countFrozen_X8_asNumber : GoodIn wsX1_countFrozen wsX8_asNumber := goodIn_r _ [4] (by decide +kernel) (by decide +kernel)
set_option maxRecDepth 20000 in
theorem gX1_countFrozen_X8_asNumber_n166 : GoodIn wsX1_countFrozen (wsX8_asNumber) := ggX1_countFrozen_X8_asNumber
set_option maxRecDepth 20000 in
theorem ggX1_countOwing_X1_owes : GoodIn wsX1_countOwing wsX1_owes := goodIn_r _ [7, 8, 9, 10, 11, 12, 13, 14, 15, 16, 17, 18, 22, 23, 24, 25, 26, 27, 33, 34, 35, 36, 37, 38, 39] (by decide +kernel) (by decide +kernel)
set_option maxRecDepth 20000 in
theorem gX1_countOwing_X1_owes : GoodIn wsX1_countOwing (wsV RX1 176 RX1 yX1_owes wsX1_owes) := goodIn_app (goodIn_of _ (by decide +kernel)) ggX1_countOwing_X1_owes
set_option maxRecDepth 20000 in
theorem ggX1_countOwing_X8_asNumber : GoodIn wsX1_countOwing wsX8_asNumber := goodIn_r _ [21] (by decide +kernel) (by decide +kernel)
set_option maxRecDepth 20000 in
theorem gX1_countOwing_X8_asNumber_n166 : GoodIn wsX1_countOwing (wsX8_asNumber) := ggX1_countOwing_X8_asNumber
set_option maxRecDepth 20000 in
theorem ggX1_wholeFree_X8_sum : GoodIn wsX1_wholeFree wsX8_sum := goodIn_r _ [6] (by decide +kernel) (by decide +kernel)
set_option maxRecDepth 20000 in
theorem gX1_wholeFree_X8_sum_n192 : GoodIn wsX1_wholeFree (wsX8_sum) := ggX1_wholeFree_X8_sum
set_option maxRecDepth 20000 in
theorem ggX1_wholeHeld_X8_sum : GoodIn wsX1_wholeHeld wsX8_sum := goodIn_r _ [6] (by decide +kernel) (by decide +kernel)
set_option maxRecDepth 20000 in
theorem gX1_wholeHeld_X8_sum_n192 : GoodIn wsX1_wholeHeld (wsX8_sum) := ggX1_wholeHeld_X8_sum
set_option maxRecDepth 20000 in
theorem ggX1_teamValue_X2_heldOf : GoodIn wsX1_teamValue wsX2_heldOf := goodIn_r _ [12, 13, 14, 15, 63, 64, 65, 66, 67, 68, 69, 70, 71, 72] (by decide +kernel) (by decide +kernel)
set_option maxRecDepth 20000 in
theorem gX1_teamValue_X2_heldOf : GoodIn wsX1_teamValue (wsV RX1 196 RX2 yX2_heldOf wsX2_heldOf) := goodIn_app (goodIn_of _ (by decide +kernel)) ggX1_teamValue_X2_heldOf
set_option maxRecDepth 20000 in
theorem ggX1_teamValue_X2_countOf : GoodIn wsX1_teamValue wsX2_countOf := goodIn_r _ [19, 13, 14, 20, 63, 64, 65, 66, 67, 68, 69, 70, 71, 72] (by decide +kernel) (by decide +kernel)
set_option maxRecDepth 20000 in
theorem gX1_teamValue_X2_countOf : GoodIn wsX1_teamValue (wsV RX1 202 RX2 yX2_countOf wsX2_countOf) := goodIn_app (goodIn_of _ (by decide +kernel)) ggX1_teamValue_X2_countOf
set_option maxRecDepth 20000 in
theorem ggX1_teamValue_X5_leftFrom : GoodIn wsX1_teamValue wsX5_leftFrom := goodIn_r _ [25, 26, 27, 28, 73, 74, 75, 76, 77, 78, 79] (by decide +kernel) (by decide +kernel)
set_option maxRecDepth 20000 in
theorem gX1_teamValue_X5_leftFrom : GoodIn wsX1_teamValue (wsV RX1 205 RX5 yX5_leftFrom wsX5_leftFrom) := goodIn_app (goodIn_of _ (by decide +kernel)) ggX1_teamValue_X5_leftFrom
set_option maxRecDepth 20000 in
theorem ggX1_teamValue_X5_leftTo : GoodIn wsX1_teamValue wsX5_leftTo := goodIn_r _ [32, 26, 33, 28, 73, 74, 75, 76, 77, 78, 79] (by decide +kernel) (by decide +kernel)
set_option maxRecDepth 20000 in
theorem gX1_teamValue_X5_leftTo : GoodIn wsX1_teamValue (wsV RX1 208 RX5 yX5_leftTo wsX5_leftTo) := goodIn_app (goodIn_of _ (by decide +kernel)) ggX1_teamValue_X5_leftTo
set_option maxRecDepth 20000 in
theorem ggX1_teamValue_X1_owes : GoodIn wsX1_teamValue wsX1_owes := goodIn_r _ [38, 6, 7, 39, 40, 41, 24, 42, 26, 33, 28, 43, 52, 53, 54, 55, 56, 57, 73, 74, 75, 76, 77, 78, 79] (by decide +kernel) (by decide +kernel)
set_option maxRecDepth 20000 in
theorem gX1_teamValue_X1_owes : GoodIn wsX1_teamValue (wsV RX1 176 RX1 yX1_owes wsX1_owes) := goodIn_app (goodIn_of _ (by decide +kernel)) ggX1_teamValue_X1_owes
set_option maxRecDepth 20000 in
theorem ggX1_teamValue_X8_asNumber : GoodIn wsX1_teamValue wsX8_asNumber := goodIn_r _ [46] (by decide +kernel) (by decide +kernel)
set_option maxRecDepth 20000 in
theorem gX1_teamValue_X8_asNumber_n166 : GoodIn wsX1_teamValue (wsX8_asNumber) := ggX1_teamValue_X8_asNumber
set_option maxRecDepth 20000 in
theorem ggX1_teamValue_X2_hasFault : GoodIn wsX1_teamValue wsX2_hasFault := goodIn_r _ [50, 13, 14, 20, 51, 63, 64, 65, 66, 67, 68, 69, 70, 71, 72] (by decide +kernel) (by decide +kernel)
set_option maxRecDepth 20000 in
theorem gX1_teamValue_X2_hasFault : GoodIn wsX1_teamValue (wsV RX1 91 RX2 yX2_hasFault wsX2_hasFault) := goodIn_app (goodIn_of _ (by decide +kernel)) ggX1_teamValue_X2_hasFault
set_option maxRecDepth 20000 in
theorem ggX1_valueOfAll_X5_countOpen : GoodIn wsX1_valueOfAll wsX5_countOpen := goodIn_r _ [16, 17, 18, 82, 83, 84, 85, 86, 87, 88] (by decide +kernel) (by decide +kernel)
set_option maxRecDepth 20000 in
theorem gX1_valueOfAll_X5_countOpen : GoodIn wsX1_valueOfAll (wsV RX1 211 RX5 yX5_countOpen wsX5_countOpen) := goodIn_app (goodIn_of _ (by decide +kernel)) ggX1_valueOfAll_X5_countOpen
set_option maxRecDepth 20000 in
theorem ggX1_valueOfAll_X1_countFrozen : GoodIn wsX1_valueOfAll wsX1_countFrozen := goodIn_r _ [23, 24, 25, 26, 27, 61, 62, 63, 64, 65, 66] (by decide +kernel) (by decide +kernel)
set_option maxRecDepth 20000 in
theorem gX1_valueOfAll_X1_countFrozen : GoodIn wsX1_valueOfAll (wsV RX1 75 RX1 yX1_countFrozen wsX1_countFrozen) := goodIn_app (goodIn_of _ (by decide +kernel)) ggX1_valueOfAll_X1_countFrozen
set_option maxRecDepth 20000 in
theorem ggX1_valueOfAll_X1_wholeFree : GoodIn wsX1_valueOfAll wsX1_wholeFree := goodIn_r _ [31, 1, 32, 2, 33, 26, 34, 61, 62, 63, 64, 65, 66, 67, 68, 69, 70, 71] (by decide +kernel) (by decide +kernel)
set_option maxRecDepth 20000 in
theorem gX1_valueOfAll_X1_wholeFree : GoodIn wsX1_valueOfAll (wsV RX1 214 RX1 yX1_wholeFree wsX1_wholeFree) := goodIn_app (goodIn_of _ (by decide +kernel)) ggX1_valueOfAll_X1_wholeFree
set_option maxRecDepth 20000 in
theorem ggX1_valueOfAll_X1_wholeHeld : GoodIn wsX1_valueOfAll wsX1_wholeHeld := goodIn_r _ [38, 3, 39, 4, 33, 26, 34, 61, 62, 63, 64, 65, 66, 72, 73, 74, 75, 76, 77, 78, 79, 80, 81] (by decide +kernel) (by decide +kernel)
set_option maxRecDepth 20000 in
theorem gX1_valueOfAll_X1_wholeHeld : GoodIn wsX1_valueOfAll (wsV RX1 217 RX1 yX1_wholeHeld wsX1_wholeHeld) := goodIn_app (goodIn_of _ (by decide +kernel)) ggX1_valueOfAll_X1_wholeHeld
set_option maxRecDepth 20000 in
theorem ggX1_valueOfAll_X8_sum : GoodIn wsX1_valueOfAll wsX8_sum := goodIn_r _ [34] (by decide +kernel) (by decide +kernel)
set_option maxRecDepth 20000 in
theorem gX1_valueOfAll_X8_sum_n192 : GoodIn wsX1_valueOfAll (wsX8_sum) := ggX1_valueOfAll_X8_sum
set_option maxRecDepth 20000 in
theorem ggX1_valueOfAll_X2_countIn : GoodIn wsX1_valueOfAll wsX2_countIn := goodIn_r _ [44, 45, 46, 72, 73, 74, 75, 76, 77, 78, 79, 80, 81] (by decide +kernel) (by decide +kernel)
set_option maxRecDepth 20000 in
theorem gX1_valueOfAll_X2_countIn : GoodIn wsX1_valueOfAll (wsV RX1 223 RX2 yX2_countIn wsX2_countIn) := goodIn_app (goodIn_of _ (by decide +kernel)) ggX1_valueOfAll_X2_countIn
set_option maxRecDepth 20000 in
theorem ggX1_valueOfAll_X1_countOwing : GoodIn wsX1_valueOfAll wsX1_countOwing := goodIn_r _ [50, 1, 2, 51, 52, 53, 22, 54, 5, 8, 55, 56, 57, 15, 58, 17, 59, 18, 60, 25, 26, 27, 61, 62, 63, 64, 65, 66, 67, 68, 69, 70, 71, 82, 83, 84, 85, 86, 87, 88] (by decide +kernel) (by decide +kernel)
set_option maxRecDepth 20000 in
theorem gX1_valueOfAll_X1_countOwing : GoodIn wsX1_valueOfAll (wsV RX1 226 RX1 yX1_countOwing wsX1_countOwing) := goodIn_app (goodIn_of _ (by decide +kernel)) ggX1_valueOfAll_X1_countOwing
set_option maxRecDepth 20000 in
theorem ggX2_append_X2_enqueue : GoodIn wsX2_append wsX2_enqueue := goodIn_r _ [13, 14, 3, 15, 16, 17, 18, 19, 20, 21, 22, 23, 24, 25] (by decide +kernel) (by decide +kernel)
set_option maxRecDepth 20000 in
theorem gX2_append_X2_enqueue : GoodIn wsX2_append (wsV RX2 49 RX2 yX2_enqueue wsX2_enqueue) := goodIn_app (goodIn_of _ (by decide +kernel)) ggX2_append_X2_enqueue
set_option maxRecDepth 20000 in
theorem ggX2_close_X2_dequeue : GoodIn wsX2_close wsX2_dequeue := goodIn_r _ [7, 8, 9, 10, 11, 12, 13, 14, 15, 16, 17, 18, 19] (by decide +kernel) (by decide +kernel)
set_option maxRecDepth 20000 in
theorem gX2_close_X2_dequeue : GoodIn wsX2_close (wsV RX2 53 RX2 yX2_dequeue wsX2_dequeue) := goodIn_app (goodIn_of _ (by decide +kernel)) ggX2_close_X2_dequeue
set_option maxRecDepth 20000 in
theorem ggX3_hasMore_X3_skipSpaces : GoodIn wsX3_hasMore wsX3_skipSpaces := goodIn_r _ [7, 1, 2, 8, 9, 10, 11, 12, 13] (by decide +kernel) (by decide +kernel)
set_option maxRecDepth 20000 in
theorem gX3_hasMore_X3_skipSpaces : GoodIn wsX3_hasMore (wsV RX3 26 RX3 yX3_skipSpaces wsX3_skipSpaces) := goodIn_app (goodIn_of _ (by decide +kernel)) ggX3_hasMore_X3_skipSpaces
set_option maxRecDepth 20000 in
theorem ggX3_findFault_X3_rewind : GoodIn wsX3_findFault wsX3_rewind := goodIn_r _ [5, 6, 98, 99, 100, 101, 102] (by decide +kernel) (by decide +kernel)
set_option maxRecDepth 20000 in
theorem gX3_findFault_X3_rewind : GoodIn wsX3_findFault (wsV RX3 29 RX3 yX3_rewind wsX3_rewind) := goodIn_app (goodIn_of _ (by decide +kernel)) ggX3_findFault_X3_rewind
set_option maxRecDepth 20000 in
theorem ggX3_findFault_X3_hasMore : GoodIn wsX3_findFault wsX3_hasMore := goodIn_r _ [10, 6, 11, 12, 13, 14, 4, 15, 16, 98, 99, 100, 101, 102] (by decide +kernel) (by decide +kernel)
set_option maxRecDepth 20000 in
theorem gX3_findFault_X3_hasMore : GoodIn wsX3_findFault (wsV RX3 32 RX3 yX3_hasMore wsX3_hasMore) := goodIn_app (goodIn_of _ (by decide +kernel)) ggX3_findFault_X3_hasMore
set_option maxRecDepth 20000 in
theorem ggX3_findFault_X3_readCommand : GoodIn wsX3_findFault wsX3_readCommand := goodIn_r _ [20, 6, 21, 22, 23, 24, 25, 4, 26, 11, 16, 27, 28, 29, 30, 31, 32, 33, 34, 35, 36, 37, 38, 39, 40, 41, 42, 43, 44, 45, 46, 47, 48, 49, 50, 51, 52, 53, 54, 55, 56, 57, 58, 59, 60, 61, 62, 63, 64, 65, 66, 67, 68, 69, 70, 71, 72, 73, 74, 75, 76, 77, 78, 79, 80, 81, 82, 83, 84, 85, 86, 87, 88, 89, 90, 91, 92, 93, 94, 12, 13, 14, 15, 95, 96, 97, 98, 99, 100, 101, 102] (by decide +kernel) (by decide +kernel)
set_option maxRecDepth 20000 in
theorem gX3_findFault_X3_readCommand : GoodIn wsX3_findFault (wsV RX3 36 RX3 yX3_readCommand wsX3_readCommand) := goodIn_app (goodIn_of _ (by decide +kernel)) ggX3_findFault_X3_readCommand
set_option maxRecDepth 20000 in
theorem ggX3_readCommand_X3_skipLetters : GoodIn wsX3_readCommand wsX3_skipLetters := goodIn_r _ [8, 1, 9, 10, 86, 87, 88, 89, 90] (by decide +kernel) (by decide +kernel)
set_option maxRecDepth 20000 in
theorem gX3_readCommand_X3_skipLetters : GoodIn wsX3_readCommand (wsV RX3 40 RX3 yX3_skipLetters wsX3_skipLetters) := goodIn_app (goodIn_of _ (by decide +kernel)) ggX3_readCommand_X3_skipLetters
set_option maxRecDepth 20000 in
theorem ggX3_readCommand_X3_findVerb : GoodIn wsX3_readCommand wsX3_findVerb := goodIn_r _ [14, 15, 16, 17, 18, 19, 7, 20, 10, 21, 22, 23, 24, 25, 26, 27, 28, 29, 30, 31, 32, 33, 34, 35, 36, 37, 38, 39, 40, 41, 42, 43, 44, 45, 46, 47, 48, 49, 50, 51, 52, 53, 54, 55, 56, 57, 58, 59, 60, 61, 62, 63, 64, 65, 66, 67, 68, 69, 86, 87, 88, 89, 90] (by decide +kernel) (by decide +kernel)
set_option maxRecDepth 20000 in
theorem gX3_readCommand_X3_findVerb : GoodIn wsX3_readCommand (wsV RX3 43 RX3 yX3_findVerb wsX3_findVerb) := goodIn_app (goodIn_of _ (by decide +kernel)) ggX3_readCommand_X3_findVerb
set_option maxRecDepth 20000 in
theorem ggX3_readCommand_X3_readNumber : GoodIn wsX3_readCommand wsX3_readNumber := goodIn_r _ [73, 1, 74, 75, 76, 77, 7, 78, 9, 10, 79, 80, 81, 82, 83, 84, 85, 86, 87, 88, 89, 90] (by decide +kernel) (by decide +kernel)
set_option maxRecDepth 20000 in
theorem gX3_readCommand_X3_readNumber : GoodIn wsX3_readCommand (wsV RX3 55 RX3 yX3_readNumber wsX3_readNumber) := goodIn_app (goodIn_of _ (by decide +kernel)) ggX3_readCommand_X3_readNumber
set_option maxRecDepth 20000 in
theorem ggX3_readCommand_X3_skipSpaces : GoodIn wsX3_readCommand wsX3_skipSpaces := goodIn_r _ [82, 1, 9, 10, 86, 87, 88, 89, 90] (by decide +kernel) (by decide +kernel)
set_option maxRecDepth 20000 in
theorem gX3_readCommand_X3_skipSpaces : GoodIn wsX3_readCommand (wsV RX3 26 RX3 yX3_skipSpaces wsX3_skipSpaces) := goodIn_app (goodIn_of _ (by decide +kernel)) ggX3_readCommand_X3_skipSpaces
set_option maxRecDepth 20000 in
theorem ggX3_readCommand_X3_next : GoodIn wsX3_readCommand wsX3_next := goodIn_r _ [78, 1, 9, 10, 86, 87, 88, 89, 90] (by decide +kernel) (by decide +kernel)
set_option maxRecDepth 20000 in
theorem gX3_readCommand_X3_next : GoodIn wsX3_readCommand (wsV RX3 59 RX3 yX3_next wsX3_next) := goodIn_app (goodIn_of _ (by decide +kernel)) ggX3_readCommand_X3_next
set_option maxRecDepth 20000 in
theorem ggX3_readNumber_X3_next : GoodIn wsX3_readNumber wsX3_next := goodIn_r _ [7, 1, 8, 9, 17, 18, 19, 20, 21] (by decide +kernel) (by decide +kernel)
set_option maxRecDepth 20000 in
theorem gX3_readNumber_X3_next : GoodIn wsX3_readNumber (wsV RX3 59 RX3 yX3_next wsX3_next) := goodIn_app (goodIn_of _ (by decide +kernel)) ggX3_readNumber_X3_next
set_option maxRecDepth 20000 in
theorem ggX3_readNumber_X3_skipSpaces : GoodIn wsX3_readNumber wsX3_skipSpaces := goodIn_r _ [13, 1, 8, 9, 17, 18, 19, 20, 21] (by decide +kernel) (by decide +kernel)
set_option maxRecDepth 20000 in
theorem gX3_readNumber_X3_skipSpaces : GoodIn wsX3_readNumber (wsV RX3 26 RX3 yX3_skipSpaces wsX3_skipSpaces) := goodIn_app (goodIn_of _ (by decide +kernel)) ggX3_readNumber_X3_skipSpaces
set_option maxRecDepth 20000 in
theorem ggX3_readNumber_X3_isDigit : GoodIn wsX3_readNumber wsX3_isDigit := goodIn_r _ [16] (by decide +kernel) (by decide +kernel)
set_option maxRecDepth 20000 in
theorem gX3_readNumber_X3_isDigit : GoodIn wsX3_readNumber (va_wsS RX3 62 yX3_isDigit wsX3_isDigit) := goodIn_app (goodIn_of _ (by decide +kernel)) ggX3_readNumber_X3_isDigit
set_option maxRecDepth 20000 in
theorem ggX3_findVerb_X3_stands : GoodIn wsX3_findVerb wsX3_stands := goodIn_r _ [7, 8, 9, 10, 11, 12, 13, 14, 15, 16, 17, 18, 19, 20, 21, 22, 23, 24, 25, 26, 27, 28, 29, 30, 31, 32, 33, 34, 35, 36, 37, 38, 39, 40, 41, 42, 43, 44, 45, 46, 47, 48, 49, 50, 51, 52, 53, 54, 55, 56, 57, 58, 59, 60, 61, 62] (by decide +kernel) (by decide +kernel)
set_option maxRecDepth 20000 in
theorem gX3_findVerb_X3_stands : GoodIn wsX3_findVerb (wsV RX3 73 RX3 yX3_stands wsX3_stands) := goodIn_app (goodIn_of _ (by decide +kernel)) ggX3_findVerb_X3_stands
set_option maxRecDepth 20000 in
theorem ggX3_stands_J0_length_8abf5 : GoodIn wsX3_stands wsJ0_length_8abf5 := goodIn_r _ [6, 7, 8, 9, 10, 5, 11, 12, 13] (by decide +kernel) (by decide +kernel)
set_option maxRecDepth 20000 in
theorem gX3_stands_J0_length_8abf5 : GoodIn wsX3_stands (wsV RX3 77 RJ0 yJ0_length_8abf5 wsJ0_length_8abf5) := goodIn_app (goodIn_of _ (by decide +kernel)) ggX3_stands_J0_length_8abf5
set_option maxRecDepth 20000 in
theorem ggX3_stands_J0_charAt_5068e : GoodIn wsX3_stands wsJ0_charAt_5068e := goodIn_r _ [17, 7, 18, 19, 20, 5, 21, 12, 13, 22, 23, 24, 25, 26, 27, 28, 29, 30, 31, 32, 33, 34, 35, 36, 37, 38, 39, 40, 41, 42, 43, 44, 45, 46, 47, 48, 49, 50] (by decide +kernel) (by decide +kernel)
set_option maxRecDepth 20000 in
theorem gX3_stands_J0_charAt_5068e : GoodIn wsX3_stands (wsV RX3 81 RJ0 yJ0_charAt_5068e wsJ0_charAt_5068e) := goodIn_app (goodIn_of _ (by decide +kernel)) ggX3_stands_J0_charAt_5068e
set_option maxRecDepth 20000 in
theorem ggX4_init_X1_init : GoodIn wsX4_init wsX1_init := goodIn_r _ [9, 10, 2, 3, 11, 12, 13, 14, 15, 16, 17, 18, 19, 20, 21, 22, 23, 24, 25, 26, 27, 28, 29, 30, 31, 32, 33, 34, 35, 36, 37, 38, 39, 40, 41, 42, 43, 44, 45, 46, 47, 48, 49, 50, 51, 52, 53, 54, 55, 56, 57, 58, 59, 62, 63, 64, 65, 66, 67, 68, 69, 70, 71, 72, 73, 74, 75, 76, 77, 78, 79, 80, 81, 82, 83, 84, 85, 86, 87, 88, 89] (by decide +kernel) (by decide +kernel)
set_option maxRecDepth 20000 in
theorem gX4_init_X1_init_n17 : GoodIn wsX4_init (wsX1_init) := ggX4_init_X1_init
set_option maxRecDepth 20000 in
theorem ggX4_prepare_X1_copyFrom : GoodIn wsX4_prepare wsX1_copyFrom := goodIn_r _ [7, 8, 9, 10, 11, 12, 13, 14, 15, 16, 17, 18, 19, 20, 21, 22, 23, 24, 25, 26, 27, 28, 29, 30, 31, 32, 33, 34, 35, 36, 37, 38, 39, 40, 41, 42, 43, 44, 45, 46, 47, 48, 49, 50, 51, 52, 53, 54, 55, 56, 57, 60, 61, 62, 63, 64, 65, 66, 67, 68, 69, 70, 71, 72, 73, 74, 75, 76, 77, 78, 79, 80, 81, 82, 83, 84, 85, 86, 87] (by decide +kernel) (by decide +kernel)
set_option maxRecDepth 20000 in
theorem gX4_prepare_X1_copyFrom : GoodIn wsX4_prepare (wsV RX4 22 RX1 yX1_copyFrom wsX1_copyFrom) := goodIn_app (goodIn_of _ (by decide +kernel)) ggX4_prepare_X1_copyFrom
set_option maxRecDepth 20000 in
theorem ggX4_restore_X1_copyFrom : GoodIn wsX4_restore wsX1_copyFrom := goodIn_r _ [7, 8, 9, 10, 11, 12, 13, 14, 15, 16, 17, 18, 19, 20, 21, 22, 23, 24, 25, 26, 27, 28, 29, 30, 31, 32, 33, 34, 35, 36, 37, 38, 39, 40, 41, 42, 43, 44, 45, 46, 47, 48, 49, 50, 51, 52, 53, 54, 55, 56, 57, 60, 61, 62, 63, 64, 65, 66, 67, 68, 69, 70, 71, 72, 73, 74, 75, 76, 77, 78, 79, 80, 81, 82, 83, 84, 85, 86, 87] (by decide +kernel) (by decide +kernel)
set_option maxRecDepth 20000 in
theorem gX4_restore_X1_copyFrom : GoodIn wsX4_restore (wsV RX4 22 RX1 yX1_copyFrom wsX1_copyFrom) := goodIn_app (goodIn_of _ (by decide +kernel)) ggX4_restore_X1_copyFrom
set_option maxRecDepth 20000 in
theorem ggX8_init_X1_init : GoodIn wsX8_init wsX1_init := goodIn_r _ [18, 19, 2, 3, 20, 21, 22, 23, 24, 25, 26, 27, 28, 29, 30, 31, 32, 33, 34, 35, 36, 37, 38, 39, 40, 41, 42, 43, 44, 45, 46, 47, 48, 49, 50, 51, 52, 53, 54, 55, 56, 57, 58, 59, 60, 61, 62, 63, 64, 65, 66, 67, 68, 81, 82, 83, 84, 85, 86, 98, 99, 100, 101, 102, 103, 104, 105, 106, 107, 108, 109, 110, 111, 112, 113, 114, 115, 116, 117, 118, 119] (by decide +kernel) (by decide +kernel)
set_option maxRecDepth 20000 in
theorem gX8_init_X1_init_n11 : GoodIn wsX8_init (wsX1_init) := ggX8_init_X1_init
set_option maxRecDepth 20000 in
theorem ggX8_init_X4_init : GoodIn wsX8_init wsX4_init := goodIn_r _ [71, 72, 2, 3, 73, 74, 5, 6, 17, 18, 19, 20, 21, 22, 23, 24, 25, 26, 27, 28, 29, 30, 31, 32, 33, 34, 35, 36, 37, 38, 39, 40, 41, 42, 43, 44, 45, 46, 47, 48, 49, 50, 51, 52, 53, 54, 55, 56, 57, 58, 59, 60, 61, 62, 63, 64, 65, 66, 67, 68, 91, 92, 81, 82, 83, 84, 85, 86, 98, 99, 100, 101, 102, 103, 104, 105, 106, 107, 108, 109, 110, 111, 112, 113, 114, 115, 116, 117, 118, 119] (by decide +kernel) (by decide +kernel)
set_option maxRecDepth 20000 in
theorem gX8_init_X4_init : GoodIn wsX8_init (wsX4_init) := ggX8_init_X4_init
set_option maxRecDepth 20000 in
theorem ggX8_init_X3_init : GoodIn wsX8_init wsX3_init := goodIn_r _ [76, 77, 2, 3, 44, 78, 79, 80, 93, 94, 95, 96, 97] (by decide +kernel) (by decide +kernel)
set_option maxRecDepth 20000 in
theorem gX8_init_X3_init_n28 : GoodIn wsX8_init (wsX3_init) := ggX8_init_X3_init
set_option maxRecDepth 20000 in
theorem ggX8_addTeam_X4_prepare : GoodIn wsX8_addTeam wsX4_prepare := goodIn_r _ [7, 8, 9, 10, 11, 12, 13, 14, 15, 16, 17, 18, 19, 20, 21, 22, 23, 24, 25, 26, 27, 28, 29, 30, 31, 32, 33, 34, 35, 36, 37, 38, 39, 40, 41, 42, 43, 44, 45, 46, 47, 48, 49, 50, 51, 52, 53, 54, 55, 56, 57, 58, 59, 60, 61, 62, 63, 64, 93, 94, 95, 96, 97, 98, 99, 100, 101, 102, 103, 104, 105, 106, 107, 108, 109, 110, 111, 112, 113, 114, 115, 116, 117, 118, 119, 120, 121, 122] (by decide +kernel) (by decide +kernel)
set_option maxRecDepth 20000 in
theorem gX8_addTeam_X4_prepare : GoodIn wsX8_addTeam (wsV RX8 33 RX4 yX4_prepare wsX4_prepare) := goodIn_app (goodIn_of _ (by decide +kernel)) ggX8_addTeam_X4_prepare
set_option maxRecDepth 20000 in
theorem ggX8_addTeam_X1_bringTeam : GoodIn wsX8_addTeam wsX1_bringTeam := goodIn_r _ [68, 22, 69, 70, 71, 72, 28, 73, 30, 31, 33, 34, 35, 95, 96, 97, 98, 99, 100, 101, 102, 103, 104, 105] (by decide +kernel) (by decide +kernel)
set_option maxRecDepth 20000 in
theorem gX8_addTeam_X1_bringTeam : GoodIn wsX8_addTeam (wsV RX8 37 RX1 yX1_bringTeam wsX1_bringTeam) := goodIn_app (goodIn_of _ (by decide +kernel)) ggX8_addTeam_X1_bringTeam
set_option maxRecDepth 20000 in
theorem ggX8_addTeam_X8_settle : GoodIn wsX8_addTeam wsX8_settle := goodIn_ca (goodIn_ca (goodIn_ca (goodIn_r _ [78, 79, 80, 81, 82, 83, 84, 1, 85, 86, 87, 6, 88, 9, 8, 89, 90, 91, 92, 93, 94] (by decide +kernel) (by decide +kernel)) (goodIn_sub (fun _ h => List.mem_cons_of_mem _ (List.mem_append_left _ (List.mem_append_left _ (List.mem_append_right _ h)))) (by decide +kernel))) (goodIn_sub (fun _ h => List.mem_cons_of_mem _ (List.mem_append_left _ (List.mem_append_right _ h))) (by decide +kernel))) (goodIn_sub (fun _ h => List.mem_cons_of_mem _ (List.mem_append_right _ h)) (by decide +kernel))
set_option maxRecDepth 20000 in
theorem gX8_addTeam_X8_settle : GoodIn wsX8_addTeam (wsV RX8 41 RX8 yX8_settle wsX8_settle) := goodIn_app (goodIn_of _ (by decide +kernel)) ggX8_addTeam_X8_settle
set_option maxRecDepth 20000 in
theorem ggX8_freeze_X4_prepare : GoodIn wsX8_freeze wsX4_prepare := goodIn_r _ [7, 8, 9, 10, 11, 12, 13, 14, 15, 16, 17, 18, 19, 20, 21, 22, 23, 24, 25, 26, 27, 28, 29, 30, 31, 32, 33, 34, 35, 36, 37, 38, 39, 40, 41, 42, 43, 44, 45, 46, 47, 48, 49, 50, 51, 52, 53, 54, 55, 56, 57, 58, 59, 60, 61, 62, 63, 64, 94, 95, 96, 97, 98, 99, 100, 101, 102, 103, 104, 105, 106, 107, 108, 109, 110, 111, 112, 113, 114, 115, 116, 117, 118, 119, 120, 121, 122, 123] (by decide +kernel) (by decide +kernel)
set_option maxRecDepth 20000 in
theorem gX8_freeze_X4_prepare : GoodIn wsX8_freeze (wsV RX8 33 RX4 yX4_prepare wsX4_prepare) := goodIn_app (goodIn_of _ (by decide +kernel)) ggX8_freeze_X4_prepare
set_option maxRecDepth 20000 in
theorem ggX8_freeze_X1_markWeeks : GoodIn wsX8_freeze wsX1_markWeeks := goodIn_r _ [68, 15, 21, 69, 70, 71, 13, 72, 73, 74, 75, 96, 97, 98, 99, 100, 101] (by decide +kernel) (by decide +kernel)
set_option maxRecDepth 20000 in
theorem gX8_freeze_X1_markWeeks : GoodIn wsX8_freeze (wsV RX8 44 RX1 yX1_markWeeks wsX1_markWeeks) := goodIn_app (goodIn_of _ (by decide +kernel)) ggX8_freeze_X1_markWeeks
set_option maxRecDepth 20000 in
theorem ggX8_freeze_X8_settle : GoodIn wsX8_freeze wsX8_settle := goodIn_ca (goodIn_ca (goodIn_ca (goodIn_r _ [79, 80, 81, 82, 83, 84, 85, 1, 86, 87, 88, 6, 89, 9, 8, 90, 91, 92, 93, 94, 95] (by decide +kernel) (by decide +kernel)) (goodIn_sub (fun _ h => List.mem_cons_of_mem _ (List.mem_append_left _ (List.mem_append_left _ (List.mem_append_right _ h)))) (by decide +kernel))) (goodIn_sub (fun _ h => List.mem_cons_of_mem _ (List.mem_append_left _ (List.mem_append_right _ h))) (by decide +kernel))) (goodIn_sub (fun _ h => List.mem_cons_of_mem _ (List.mem_append_right _ h)) (by decide +kernel))
set_option maxRecDepth 20000 in
theorem gX8_freeze_X8_settle : GoodIn wsX8_freeze (wsV RX8 41 RX8 yX8_settle wsX8_settle) := goodIn_app (goodIn_of _ (by decide +kernel)) ggX8_freeze_X8_settle
set_option maxRecDepth 20000 in
theorem ggX8_set_X4_prepare : GoodIn wsX8_set wsX4_prepare := goodIn_r _ [7, 8, 9, 10, 11, 12, 13, 14, 15, 16, 17, 18, 19, 20, 21, 22, 23, 24, 25, 26, 27, 28, 29, 30, 31, 32, 33, 34, 35, 36, 37, 38, 39, 40, 41, 42, 43, 44, 45, 46, 47, 48, 49, 50, 51, 52, 53, 54, 55, 56, 57, 58, 59, 60, 61, 62, 63, 64, 88, 89, 90, 91, 92, 93, 94, 95, 96, 97, 98, 99, 100, 101, 102, 103, 104, 105, 106, 107, 108, 109, 110, 111, 112, 113, 114, 115, 116, 117] (by decide +kernel) (by decide +kernel)
set_option maxRecDepth 20000 in
theorem gX8_set_X4_prepare : GoodIn wsX8_set (wsV RX8 33 RX4 yX4_prepare wsX4_prepare) := goodIn_app (goodIn_of _ (by decide +kernel)) ggX8_set_X4_prepare
set_option maxRecDepth 20000 in
theorem ggX8_set_X1_changeSetting : GoodIn wsX8_set wsX1_changeSetting := goodIn_r _ [68, 16, 90, 91, 92, 93, 94, 95] (by decide +kernel) (by decide +kernel)
set_option maxRecDepth 20000 in
theorem gX8_set_X1_changeSetting : GoodIn wsX8_set (wsV RX8 48 RX1 yX1_changeSetting wsX1_changeSetting) := goodIn_app (goodIn_of _ (by decide +kernel)) ggX8_set_X1_changeSetting
set_option maxRecDepth 20000 in
theorem ggX8_set_X8_settle : GoodIn wsX8_set wsX8_settle := goodIn_ca (goodIn_ca (goodIn_ca (goodIn_r _ [73, 74, 75, 76, 77, 78, 79, 1, 80, 81, 82, 6, 83, 9, 8, 84, 85, 86, 87, 88, 89] (by decide +kernel) (by decide +kernel)) (goodIn_sub (fun _ h => List.mem_cons_of_mem _ (List.mem_append_left _ (List.mem_append_left _ (List.mem_append_right _ h)))) (by decide +kernel))) (goodIn_sub (fun _ h => List.mem_cons_of_mem _ (List.mem_append_left _ (List.mem_append_right _ h))) (by decide +kernel))) (goodIn_sub (fun _ h => List.mem_cons_of_mem _ (List.mem_append_right _ h)) (by decide +kernel))
set_option maxRecDepth 20000 in
theorem gX8_set_X8_settle : GoodIn wsX8_set (wsV RX8 41 RX8 yX8_settle wsX8_settle) := goodIn_app (goodIn_of _ (by decide +kernel)) ggX8_set_X8_settle
set_option maxRecDepth 20000 in
theorem ggX8_endWeek_X4_prepare : GoodIn wsX8_endWeek wsX4_prepare := goodIn_r _ [7, 8, 9, 10, 11, 12, 13, 14, 15, 16, 17, 18, 19, 20, 21, 22, 23, 24, 25, 26, 27, 28, 29, 30, 31, 32, 33, 34, 35, 36, 37, 38, 39, 40, 41, 42, 43, 44, 45, 46, 47, 48, 49, 50, 51, 52, 53, 54, 55, 56, 57, 58, 59, 60, 61, 62, 63, 64, 127, 128, 129, 130, 131, 132, 133, 134, 135, 136, 137, 138, 139, 140, 141, 142, 143, 144, 145, 146, 147, 148, 149, 150, 151, 152, 153, 154, 155, 156] (by decide +kernel) (by decide +kernel)
set_option maxRecDepth 20000 in
theorem gX8_endWeek_X4_prepare : GoodIn wsX8_endWeek (wsV RX8 33 RX4 yX4_prepare wsX4_prepare) := goodIn_app (goodIn_of _ (by decide +kernel)) ggX8_endWeek_X4_prepare
set_option maxRecDepth 20000 in
theorem ggX8_endWeek_X1_closeWeek : GoodIn wsX8_endWeek wsX1_closeWeek := goodIn_r _ [68, 15, 69, 70, 71, 13, 72, 22, 73, 23, 16, 74, 75, 76, 39, 77, 41, 43, 46, 49, 78, 79, 80, 28, 81, 31, 82, 83, 84, 85, 86, 87, 88, 34, 89, 90, 91, 92, 24, 93, 94, 95, 96, 97, 98, 99, 100, 101, 102, 103, 104, 105, 106, 107, 129, 130, 131, 132, 133, 134, 135, 136, 137, 138, 139, 140, 141, 142, 143, 144, 145, 146, 147, 148, 149, 150, 151, 152, 153, 154, 155, 156] (by decide +kernel) (by decide +kernel)
set_option maxRecDepth 20000 in
theorem gX8_endWeek_X1_closeWeek : GoodIn wsX8_endWeek (wsV RX8 52 RX1 yX1_closeWeek wsX1_closeWeek) := goodIn_app (goodIn_of _ (by decide +kernel)) ggX8_endWeek_X1_closeWeek
set_option maxRecDepth 20000 in
theorem ggX8_endWeek_X8_settle : GoodIn wsX8_endWeek wsX8_settle := goodIn_ca (goodIn_ca (goodIn_ca (goodIn_r _ [112, 113, 114, 115, 116, 117, 118, 1, 119, 120, 121, 6, 122, 9, 8, 123, 124, 125, 126, 127, 128] (by decide +kernel) (by decide +kernel)) (goodIn_sub (fun _ h => List.mem_cons_of_mem _ (List.mem_append_left _ (List.mem_append_left _ (List.mem_append_right _ h)))) (by decide +kernel))) (goodIn_sub (fun _ h => List.mem_cons_of_mem _ (List.mem_append_left _ (List.mem_append_right _ h))) (by decide +kernel))) (goodIn_sub (fun _ h => List.mem_cons_of_mem _ (List.mem_append_right _ h)) (by decide +kernel))
set_option maxRecDepth 20000 in
theorem gX8_endWeek_X8_settle : GoodIn wsX8_endWeek (wsV RX8 41 RX8 yX8_settle wsX8_settle) := goodIn_app (goodIn_of _ (by decide +kernel)) ggX8_endWeek_X8_settle
set_option maxRecDepth 20000 in
theorem ggX8_ask_X4_prepare : GoodIn wsX8_ask wsX4_prepare := goodIn_r _ [7, 8, 9, 10, 11, 12, 13, 14, 15, 16, 17, 18, 19, 20, 21, 22, 23, 24, 25, 26, 27, 28, 29, 30, 31, 32, 33, 34, 35, 36, 37, 38, 39, 40, 41, 42, 43, 44, 45, 46, 47, 48, 49, 50, 51, 52, 53, 54, 55, 56, 57, 58, 59, 60, 61, 62, 63, 64, 103, 104, 105, 106, 107, 108, 109, 110, 111, 112, 113, 114, 115, 116, 117, 118, 119, 120, 121, 122, 123, 124, 125, 126, 127, 128, 129, 130, 131, 132] (by decide +kernel) (by decide +kernel)
set_option maxRecDepth 20000 in
theorem gX8_ask_X4_prepare : GoodIn wsX8_ask (wsV RX8 33 RX4 yX4_prepare wsX4_prepare) := goodIn_app (goodIn_of _ (by decide +kernel)) ggX8_ask_X4_prepare
set_option maxRecDepth 20000 in
theorem ggX8_ask_X1_enterChange : GoodIn wsX8_ask wsX1_enterChange := goodIn_r _ [68, 22, 23, 69, 15, 70, 71, 72, 28, 73, 30, 74, 75, 76, 77, 78, 79, 39, 80, 41, 43, 45, 46, 47, 48, 49, 50, 81, 82, 83, 84, 42, 51, 105, 106, 107, 108, 109, 110, 116, 117, 118, 119, 120, 121, 122, 123, 124, 125, 111, 112, 113, 114, 115] (by decide +kernel) (by decide +kernel)
set_option maxRecDepth 20000 in
theorem gX8_ask_X1_enterChange : GoodIn wsX8_ask (wsV RX8 56 RX1 yX1_enterChange wsX1_enterChange) := goodIn_app (goodIn_of _ (by decide +kernel)) ggX8_ask_X1_enterChange
set_option maxRecDepth 20000 in
theorem ggX8_ask_X8_settle : GoodIn wsX8_ask wsX8_settle := goodIn_ca (goodIn_ca (goodIn_ca (goodIn_r _ [88, 89, 90, 91, 92, 93, 94, 1, 95, 96, 97, 6, 98, 9, 8, 99, 100, 101, 102, 103, 104] (by decide +kernel) (by decide +kernel)) (goodIn_sub (fun _ h => List.mem_cons_of_mem _ (List.mem_append_left _ (List.mem_append_left _ (List.mem_append_right _ h)))) (by decide +kernel))) (goodIn_sub (fun _ h => List.mem_cons_of_mem _ (List.mem_append_left _ (List.mem_append_right _ h))) (by decide +kernel))) (goodIn_sub (fun _ h => List.mem_cons_of_mem _ (List.mem_append_right _ h)) (by decide +kernel))
set_option maxRecDepth 20000 in
theorem gX8_ask_X8_settle : GoodIn wsX8_ask (wsV RX8 41 RX8 yX8_settle wsX8_settle) := goodIn_app (goodIn_of _ (by decide +kernel)) ggX8_ask_X8_settle
set_option maxRecDepth 20000 in
theorem ggX8_exempt_X4_prepare : GoodIn wsX8_exempt wsX4_prepare := goodIn_r _ [7, 8, 9, 10, 11, 12, 13, 14, 15, 16, 17, 18, 19, 20, 21, 22, 23, 24, 25, 26, 27, 28, 29, 30, 31, 32, 33, 34, 35, 36, 37, 38, 39, 40, 41, 42, 43, 44, 45, 46, 47, 48, 49, 50, 51, 52, 53, 54, 55, 56, 57, 58, 59, 60, 61, 62, 63, 64, 113, 114, 115, 116, 117, 118, 119, 120, 121, 122, 123, 124, 125, 126, 127, 128, 129, 130, 131, 132, 133, 134, 135, 136, 137, 138, 139, 140, 141, 142] (by decide +kernel) (by decide +kernel)
set_option maxRecDepth 20000 in
theorem gX8_exempt_X4_prepare : GoodIn wsX8_exempt (wsV RX8 33 RX4 yX4_prepare wsX4_prepare) := goodIn_app (goodIn_of _ (by decide +kernel)) ggX8_exempt_X4_prepare
set_option maxRecDepth 20000 in
theorem ggX8_exempt_X1_exemptChange : GoodIn wsX8_exempt wsX1_exemptChange := goodIn_r _ [68, 23, 69, 22, 70, 71, 72, 73, 74, 75, 76, 39, 77, 41, 78, 79, 80, 13, 81, 82, 83, 84, 85, 24, 15, 86, 87, 88, 55, 89, 57, 60, 62, 63, 90, 91, 92, 93, 16, 115, 116, 117, 118, 119, 120, 126, 127, 128, 129, 130, 131, 132, 133, 134, 135, 121, 122, 123, 124, 125, 136, 137, 138, 139, 140, 141, 142] (by decide +kernel) (by decide +kernel)
set_option maxRecDepth 20000 in
theorem gX8_exempt_X1_exemptChange : GoodIn wsX8_exempt (wsV RX8 59 RX1 yX1_exemptChange wsX1_exemptChange) := goodIn_app (goodIn_of _ (by decide +kernel)) ggX8_exempt_X1_exemptChange
set_option maxRecDepth 20000 in
theorem ggX8_exempt_X8_settle : GoodIn wsX8_exempt wsX8_settle := goodIn_ca (goodIn_ca (goodIn_ca (goodIn_r _ [98, 99, 100, 101, 102, 103, 104, 1, 105, 106, 107, 6, 108, 9, 8, 109, 110, 111, 112, 113, 114] (by decide +kernel) (by decide +kernel)) (goodIn_sub (fun _ h => List.mem_cons_of_mem _ (List.mem_append_left _ (List.mem_append_left _ (List.mem_append_right _ h)))) (by decide +kernel))) (goodIn_sub (fun _ h => List.mem_cons_of_mem _ (List.mem_append_left _ (List.mem_append_right _ h))) (by decide +kernel))) (goodIn_sub (fun _ h => List.mem_cons_of_mem _ (List.mem_append_right _ h)) (by decide +kernel))
set_option maxRecDepth 20000 in
theorem gX8_exempt_X8_settle : GoodIn wsX8_exempt (wsV RX8 41 RX8 yX8_settle wsX8_settle) := goodIn_app (goodIn_of _ (by decide +kernel)) ggX8_exempt_X8_settle
set_option maxRecDepth 20000 in
theorem ggX8_make_X4_prepare : GoodIn wsX8_make wsX4_prepare := goodIn_r _ [7, 8, 9, 10, 11, 12, 13, 14, 15, 16, 17, 18, 19, 20, 21, 22, 23, 24, 25, 26, 27, 28, 29, 30, 31, 32, 33, 34, 35, 36, 37, 38, 39, 40, 41, 42, 43, 44, 45, 46, 47, 48, 49, 50, 51, 52, 53, 54, 55, 56, 57, 58, 59, 60, 61, 62, 63, 64, 117, 118, 119, 120, 121, 122, 123, 124, 125, 126, 127, 128, 129, 130, 131, 132, 133, 134, 135, 136, 137, 138, 139, 140, 141, 142, 143, 144, 145, 146] (by decide +kernel) (by decide +kernel)
set_option maxRecDepth 20000 in
theorem gX8_make_X4_prepare : GoodIn wsX8_make (wsV RX8 33 RX4 yX4_prepare wsX4_prepare) := goodIn_app (goodIn_of _ (by decide +kernel)) ggX8_make_X4_prepare
set_option maxRecDepth 20000 in
theorem ggX8_make_X1_makeChange : GoodIn wsX8_make wsX1_makeChange := goodIn_r _ [68, 23, 69, 21, 15, 70, 71, 72, 22, 73, 16, 74, 75, 76, 77, 78, 79, 80, 81, 82, 39, 83, 41, 84, 85, 86, 87, 46, 88, 89, 90, 91, 92, 93, 94, 47, 95, 96, 97, 98, 42, 51, 119, 120, 121, 122, 123, 124, 130, 131, 132, 133, 134, 135, 136, 137, 138, 139, 125, 126, 127, 128, 129] (by decide +kernel) (by decide +kernel)
set_option maxRecDepth 20000 in
theorem gX8_make_X1_makeChange : GoodIn wsX8_make (wsV RX8 62 RX1 yX1_makeChange wsX1_makeChange) := goodIn_app (goodIn_of _ (by decide +kernel)) ggX8_make_X1_makeChange
set_option maxRecDepth 20000 in
theorem ggX8_make_X8_settle : GoodIn wsX8_make wsX8_settle := goodIn_ca (goodIn_ca (goodIn_ca (goodIn_r _ [102, 103, 104, 105, 106, 107, 108, 1, 109, 110, 111, 6, 112, 9, 8, 113, 114, 115, 116, 117, 118] (by decide +kernel) (by decide +kernel)) (goodIn_sub (fun _ h => List.mem_cons_of_mem _ (List.mem_append_left _ (List.mem_append_left _ (List.mem_append_right _ h)))) (by decide +kernel))) (goodIn_sub (fun _ h => List.mem_cons_of_mem _ (List.mem_append_left _ (List.mem_append_right _ h))) (by decide +kernel))) (goodIn_sub (fun _ h => List.mem_cons_of_mem _ (List.mem_append_right _ h)) (by decide +kernel))
set_option maxRecDepth 20000 in
theorem gX8_make_X8_settle : GoodIn wsX8_make (wsV RX8 41 RX8 yX8_settle wsX8_settle) := goodIn_app (goodIn_of _ (by decide +kernel)) ggX8_make_X8_settle
set_option maxRecDepth 20000 in
theorem ggX8_giveUp_X4_prepare : GoodIn wsX8_giveUp wsX4_prepare := goodIn_r _ [7, 8, 9, 10, 11, 12, 13, 14, 15, 16, 17, 18, 19, 20, 21, 22, 23, 24, 25, 26, 27, 28, 29, 30, 31, 32, 33, 34, 35, 36, 37, 38, 39, 40, 41, 42, 43, 44, 45, 46, 47, 48, 49, 50, 51, 52, 53, 54, 55, 56, 57, 58, 59, 60, 61, 62, 63, 64, 106, 107, 108, 109, 110, 111, 112, 113, 114, 115, 116, 117, 118, 119, 120, 121, 122, 123, 124, 125, 126, 127, 128, 129, 130, 131, 132, 133, 134, 135] (by decide +kernel) (by decide +kernel)
set_option maxRecDepth 20000 in
theorem gX8_giveUp_X4_prepare : GoodIn wsX8_giveUp (wsV RX8 33 RX4 yX4_prepare wsX4_prepare) := goodIn_app (goodIn_of _ (by decide +kernel)) ggX8_giveUp_X4_prepare
set_option maxRecDepth 20000 in
theorem ggX8_giveUp_X1_dropChange : GoodIn wsX8_giveUp wsX1_dropChange := goodIn_r _ [68, 23, 22, 69, 70, 71, 72, 73, 39, 74, 41, 75, 76, 77, 78, 46, 79, 80, 81, 82, 47, 83, 84, 85, 86, 42, 51, 108, 109, 110, 111, 112, 113, 114, 115, 116, 117, 118, 119, 120, 121, 122, 123, 124, 125, 126, 127, 128] (by decide +kernel) (by decide +kernel)
set_option maxRecDepth 20000 in
theorem gX8_giveUp_X1_dropChange : GoodIn wsX8_giveUp (wsV RX8 66 RX1 yX1_dropChange wsX1_dropChange) := goodIn_app (goodIn_of _ (by decide +kernel)) ggX8_giveUp_X1_dropChange
set_option maxRecDepth 20000 in
theorem ggX8_giveUp_X8_settle : GoodIn wsX8_giveUp wsX8_settle := goodIn_ca (goodIn_ca (goodIn_ca (goodIn_r _ [91, 92, 93, 94, 95, 96, 97, 1, 98, 99, 100, 6, 101, 9, 8, 102, 103, 104, 105, 106, 107] (by decide +kernel) (by decide +kernel)) (goodIn_sub (fun _ h => List.mem_cons_of_mem _ (List.mem_append_left _ (List.mem_append_left _ (List.mem_append_right _ h)))) (by decide +kernel))) (goodIn_sub (fun _ h => List.mem_cons_of_mem _ (List.mem_append_left _ (List.mem_append_right _ h))) (by decide +kernel))) (goodIn_sub (fun _ h => List.mem_cons_of_mem _ (List.mem_append_right _ h)) (by decide +kernel))
set_option maxRecDepth 20000 in
theorem gX8_giveUp_X8_settle : GoodIn wsX8_giveUp (wsV RX8 41 RX8 yX8_settle wsX8_settle) := goodIn_app (goodIn_of _ (by decide +kernel)) ggX8_giveUp_X8_settle
set_option maxRecDepth 20000 in
theorem ggX8_lend_X4_prepare : GoodIn wsX8_lend wsX4_prepare := goodIn_r _ [7, 8, 9, 10, 11, 12, 13, 14, 15, 16, 17, 18, 19, 20, 21, 22, 23, 24, 25, 26, 27, 28, 29, 30, 31, 32, 33, 34, 35, 36, 37, 38, 39, 40, 41, 42, 43, 44, 45, 46, 47, 48, 49, 50, 51, 52, 53, 54, 55, 56, 57, 58, 59, 60, 61, 62, 63, 64, 106, 107, 108, 109, 110, 111, 112, 113, 114, 115, 116, 117, 118, 119, 120, 121, 122, 123, 124, 125, 126, 127, 128, 129, 130, 131, 132, 133, 134, 135] (by decide +kernel) (by decide +kernel)
set_option maxRecDepth 20000 in
theorem gX8_lend_X4_prepare : GoodIn wsX8_lend (wsV RX8 33 RX4 yX4_prepare wsX4_prepare) := goodIn_app (goodIn_of _ (by decide +kernel)) ggX8_lend_X4_prepare
set_option maxRecDepth 20000 in
theorem ggX8_lend_X1_lendCredits : GoodIn wsX8_lend wsX1_lendCredits := goodIn_r _ [68, 22, 15, 24, 69, 70, 71, 72, 73, 28, 74, 30, 75, 76, 77, 13, 78, 79, 80, 81, 55, 82, 57, 60, 62, 63, 83, 84, 85, 86, 58, 61, 64, 108, 109, 110, 111, 112, 113, 129, 130, 131, 132, 133, 134, 135, 114, 115, 116, 117, 118] (by decide +kernel) (by decide +kernel)
set_option maxRecDepth 20000 in
theorem gX8_lend_X1_lendCredits : GoodIn wsX8_lend (wsV RX8 69 RX1 yX1_lendCredits wsX1_lendCredits) := goodIn_app (goodIn_of _ (by decide +kernel)) ggX8_lend_X1_lendCredits
set_option maxRecDepth 20000 in
theorem ggX8_lend_X8_settle : GoodIn wsX8_lend wsX8_settle := goodIn_ca (goodIn_ca (goodIn_ca (goodIn_r _ [91, 92, 93, 94, 95, 96, 97, 1, 98, 99, 100, 6, 101, 9, 8, 102, 103, 104, 105, 106, 107] (by decide +kernel) (by decide +kernel)) (goodIn_sub (fun _ h => List.mem_cons_of_mem _ (List.mem_append_left _ (List.mem_append_left _ (List.mem_append_right _ h)))) (by decide +kernel))) (goodIn_sub (fun _ h => List.mem_cons_of_mem _ (List.mem_append_left _ (List.mem_append_right _ h))) (by decide +kernel))) (goodIn_sub (fun _ h => List.mem_cons_of_mem _ (List.mem_append_right _ h)) (by decide +kernel))
set_option maxRecDepth 20000 in
theorem gX8_lend_X8_settle : GoodIn wsX8_lend (wsV RX8 41 RX8 yX8_settle wsX8_settle) := goodIn_app (goodIn_of _ (by decide +kernel)) ggX8_lend_X8_settle
set_option maxRecDepth 20000 in
theorem ggX8_repay_X4_prepare : GoodIn wsX8_repay wsX4_prepare := goodIn_r _ [7, 8, 9, 10, 11, 12, 13, 14, 15, 16, 17, 18, 19, 20, 21, 22, 23, 24, 25, 26, 27, 28, 29, 30, 31, 32, 33, 34, 35, 36, 37, 38, 39, 40, 41, 42, 43, 44, 45, 46, 47, 48, 49, 50, 51, 52, 53, 54, 55, 56, 57, 58, 59, 60, 61, 62, 63, 64, 104, 105, 106, 107, 108, 109, 110, 111, 112, 113, 114, 115, 116, 117, 118, 119, 120, 121, 122, 123, 124, 125, 126, 127, 128, 129, 130, 131, 132, 133] (by decide +kernel) (by decide +kernel)
set_option maxRecDepth 20000 in
theorem gX8_repay_X4_prepare : GoodIn wsX8_repay (wsV RX8 33 RX4 yX4_prepare wsX4_prepare) := goodIn_app (goodIn_of _ (by decide +kernel)) ggX8_repay_X4_prepare
set_option maxRecDepth 20000 in
theorem ggX8_repay_X1_repayLoan : GoodIn wsX8_repay wsX1_repayLoan := goodIn_r _ [68, 24, 69, 70, 71, 72, 55, 73, 57, 74, 75, 76, 13, 77, 22, 78, 79, 80, 81, 82, 83, 84, 106, 107, 108, 109, 110, 111, 127, 128, 129, 130, 131, 132, 133, 112, 113, 114, 115, 116] (by decide +kernel) (by decide +kernel)
set_option maxRecDepth 20000 in
theorem gX8_repay_X1_repayLoan : GoodIn wsX8_repay (wsV RX8 73 RX1 yX1_repayLoan wsX1_repayLoan) := goodIn_app (goodIn_of _ (by decide +kernel)) ggX8_repay_X1_repayLoan
set_option maxRecDepth 20000 in
theorem ggX8_repay_X8_settle : GoodIn wsX8_repay wsX8_settle := goodIn_ca (goodIn_ca (goodIn_ca (goodIn_r _ [89, 90, 91, 92, 93, 94, 95, 1, 96, 97, 98, 6, 99, 9, 8, 100, 101, 102, 103, 104, 105] (by decide +kernel) (by decide +kernel)) (goodIn_sub (fun _ h => List.mem_cons_of_mem _ (List.mem_append_left _ (List.mem_append_left _ (List.mem_append_right _ h)))) (by decide +kernel))) (goodIn_sub (fun _ h => List.mem_cons_of_mem _ (List.mem_append_left _ (List.mem_append_right _ h))) (by decide +kernel))) (goodIn_sub (fun _ h => List.mem_cons_of_mem _ (List.mem_append_right _ h)) (by decide +kernel))
set_option maxRecDepth 20000 in
theorem gX8_repay_X8_settle : GoodIn wsX8_repay (wsV RX8 41 RX8 yX8_settle wsX8_settle) := goodIn_app (goodIn_of _ (by decide +kernel)) ggX8_repay_X8_settle
set_option maxRecDepth 20000 in
theorem ggX8_team_X8_needTeam : GoodIn wsX8_team wsX8_needTeam := goodIn_ca (goodIn_r _ [6, 7, 8, 1, 9, 10, 11, 12, 13, 14, 15, 76, 77, 78, 79, 80, 81, 82, 83, 84, 85, 86, 87, 88, 89, 90] (by decide +kernel) (by decide +kernel)) (goodIn_sub (fun _ h => List.mem_cons_of_mem _ (List.mem_append_left _ (List.mem_append_right _ h))) (by decide +kernel))
set_option maxRecDepth 20000 in
theorem gX8_team_X8_needTeam : GoodIn wsX8_team (wsV RX8 76 RX8 yX8_needTeam wsX8_needTeam) := goodIn_app (goodIn_of _ (by decide +kernel)) ggX8_team_X8_needTeam
set_option maxRecDepth 20000 in
theorem ggX8_team_X8_needValue : GoodIn wsX8_team wsX8_needValue := goodIn_ca (goodIn_r _ [19, 20, 21] (by decide +kernel) (by decide +kernel)) (goodIn_sub (fun _ h => List.mem_cons_of_mem _ (List.mem_append_right _ h)) (by decide +kernel))
set_option maxRecDepth 20000 in
theorem gX8_team_X8_needValue : GoodIn wsX8_team (wsV RX8 80 RX8 yX8_needValue wsX8_needValue) := goodIn_app (goodIn_of _ (by decide +kernel)) ggX8_team_X8_needValue
set_option maxRecDepth 20000 in
theorem ggX8_team_X1_teamValue : GoodIn wsX8_team wsX1_teamValue := goodIn_r _ [26, 27, 28, 29, 30, 31, 32, 33, 34, 35, 36, 37, 38, 39, 40, 41, 42, 43, 44, 45, 46, 47, 48, 49, 50, 51, 52, 53, 54, 55, 56, 57, 58, 59, 60, 61, 62, 25, 63, 64, 65, 66, 67, 68, 69, 5, 70, 71, 72, 73, 74, 75, 80, 81, 82, 83, 84, 85, 86, 87, 88, 89, 90, 91, 92, 93, 94, 95, 96, 97, 98, 99, 100, 101, 102, 103, 104, 105, 106, 107] (by decide +kernel) (by decide +kernel)
set_option maxRecDepth 20000 in
theorem gX8_team_X1_teamValue : GoodIn wsX8_team (wsV RX8 84 RX1 yX1_teamValue wsX1_teamValue) := goodIn_app (goodIn_of _ (by decide +kernel)) ggX8_team_X1_teamValue
set_option maxRecDepth 20000 in
theorem ggX8_change_X8_needChange : GoodIn wsX8_change wsX8_needChange := goodIn_ca (goodIn_r _ [7, 8, 9, 1, 2, 10, 11, 12, 13, 14, 15, 33, 34, 35, 36, 37, 38, 39, 40, 41, 42, 43, 44, 45, 46, 47, 48, 49, 50, 51, 52] (by decide +kernel) (by decide +kernel)) (goodIn_sub (fun _ h => List.mem_cons_of_mem _ (List.mem_append_left _ (List.mem_append_right _ h))) (by decide +kernel))
set_option maxRecDepth 20000 in
theorem gX8_change_X8_needChange : GoodIn wsX8_change (wsV RX8 87 RX8 yX8_needChange wsX8_needChange) := goodIn_app (goodIn_of _ (by decide +kernel)) ggX8_change_X8_needChange
set_option maxRecDepth 20000 in
theorem ggX8_change_X8_needValue : GoodIn wsX8_change wsX8_needValue := goodIn_ca (goodIn_r _ [19, 20, 21] (by decide +kernel) (by decide +kernel)) (goodIn_sub (fun _ h => List.mem_cons_of_mem _ (List.mem_append_right _ h)) (by decide +kernel))
set_option maxRecDepth 20000 in
theorem gX8_change_X8_needValue : GoodIn wsX8_change (wsV RX8 80 RX8 yX8_needValue wsX8_needValue) := goodIn_app (goodIn_of _ (by decide +kernel)) ggX8_change_X8_needValue
set_option maxRecDepth 20000 in
theorem ggX8_change_X2_value : GoodIn wsX8_change wsX2_value := goodIn_r _ [25, 26, 27, 28, 29, 30, 31, 32, 43, 44, 45, 46, 47, 48, 49, 50, 51, 52] (by decide +kernel) (by decide +kernel)
set_option maxRecDepth 20000 in
theorem gX8_change_X2_value : GoodIn wsX8_change (wsV RX8 94 RX2 yX2_value wsX2_value) := goodIn_app (goodIn_of _ (by decide +kernel)) ggX8_change_X2_value
set_option maxRecDepth 20000 in
theorem ggX8_loan_X5_has : GoodIn wsX8_loan wsX5_has := goodIn_r _ [9, 10, 38, 39, 40, 41, 42, 43, 44] (by decide +kernel) (by decide +kernel)
set_option maxRecDepth 20000 in
theorem gX8_loan_X5_has : GoodIn wsX8_loan (wsV RX8 103 RX5 yX5_has wsX5_has) := goodIn_app (goodIn_of _ (by decide +kernel)) ggX8_loan_X5_has
set_option maxRecDepth 20000 in
theorem ggX8_loan_X8_needValue : GoodIn wsX8_loan wsX8_needValue := goodIn_ca (goodIn_r _ [15, 16, 17] (by decide +kernel) (by decide +kernel)) (goodIn_sub (fun _ h => List.mem_cons_of_mem _ (List.mem_append_right _ h)) (by decide +kernel))
set_option maxRecDepth 20000 in
theorem gX8_loan_X8_needValue : GoodIn wsX8_loan (wsV RX8 80 RX8 yX8_needValue wsX8_needValue) := goodIn_app (goodIn_of _ (by decide +kernel)) ggX8_loan_X8_needValue
set_option maxRecDepth 20000 in
theorem ggX8_loan_X5_value : GoodIn wsX8_loan wsX5_value := goodIn_r _ [21, 22, 23, 24, 25, 26, 27, 38, 39, 40, 41, 42, 43, 44] (by decide +kernel) (by decide +kernel)
set_option maxRecDepth 20000 in
theorem gX8_loan_X5_value : GoodIn wsX8_loan (wsV RX8 116 RX5 yX5_value wsX5_value) := goodIn_app (goodIn_of _ (by decide +kernel)) ggX8_loan_X5_value
set_option maxRecDepth 20000 in
theorem ggX8_frozen_X8_asNumber : GoodIn wsX8_frozen wsX8_asNumber := goodIn_r _ [8] (by decide +kernel) (by decide +kernel)
set_option maxRecDepth 20000 in
theorem gX8_frozen_X8_asNumber : GoodIn wsX8_frozen (va_wsS RX8 136 yX8_asNumber wsX8_asNumber) := goodIn_app (goodIn_of _ (by decide +kernel)) ggX8_frozen_X8_asNumber
set_option maxRecDepth 20000 in
theorem ggX8_whole_X8_needValue : GoodIn wsX8_whole wsX8_needValue := goodIn_ca (goodIn_r _ [5, 6, 7] (by decide +kernel) (by decide +kernel)) (goodIn_sub (fun _ h => List.mem_cons_of_mem _ (List.mem_append_right _ h)) (by decide +kernel))
set_option maxRecDepth 20000 in
theorem gX8_whole_X8_needValue : GoodIn wsX8_whole (wsV RX8 80 RX8 yX8_needValue wsX8_needValue) := goodIn_app (goodIn_of _ (by decide +kernel)) ggX8_whole_X8_needValue
set_option maxRecDepth 20000 in
theorem ggX8_whole_X8_wholeValue : GoodIn wsX8_whole wsX8_wholeValue := goodIn_r _ [11, 12, 13, 14, 15, 16, 17, 18, 19, 20, 21, 22, 23, 24, 25, 26, 27, 28, 29, 30, 31, 32, 33, 34, 35, 36, 37, 38, 39, 40, 41, 42, 43, 4, 44, 45, 46, 47, 48, 49, 50, 51, 52, 53, 54, 55, 56, 57, 58, 59, 60, 61, 62, 63, 64, 65, 66, 67, 68, 69, 70, 71, 72, 73, 74, 75, 76, 77, 78, 79, 80, 81, 82, 83, 84, 85, 86, 87, 88, 89, 90, 91, 92, 93, 94, 95, 96, 97, 98, 99, 100, 101, 102, 103, 104, 105, 106, 107, 108, 109, 110, 111, 112, 113, 114] (by decide +kernel) (by decide +kernel)
set_option maxRecDepth 20000 in
theorem gX8_whole_X8_wholeValue : GoodIn wsX8_whole (wsV RX8 140 RX8 yX8_wholeValue wsX8_wholeValue) := goodIn_app (goodIn_of _ (by decide +kernel)) ggX8_whole_X8_wholeValue
set_option maxRecDepth 20000 in
theorem ggX8_reason_X8_needChange : GoodIn wsX8_reason wsX8_needChange := goodIn_ca (goodIn_r _ [6, 7, 8, 1, 9, 10, 11, 12, 13, 14, 15, 47, 48, 49, 50, 51, 52, 53, 54, 55, 56, 57, 58, 59, 60, 61, 62, 63, 64, 65, 66] (by decide +kernel) (by decide +kernel)) (goodIn_sub (fun _ h => List.mem_cons_of_mem _ (List.mem_append_right _ h)) (by decide +kernel))
set_option maxRecDepth 20000 in
theorem gX8_reason_X8_needChange : GoodIn wsX8_reason (wsV RX8 87 RX8 yX8_needChange wsX8_needChange) := goodIn_app (goodIn_of _ (by decide +kernel)) ggX8_reason_X8_needChange
set_option maxRecDepth 20000 in
theorem ggX8_reason_X1_reasonAgainst : GoodIn wsX8_reason wsX1_reasonAgainst := goodIn_r _ [20, 21, 22, 23, 24, 25, 26, 27, 28, 29, 19, 30, 31, 32, 33, 34, 35, 36, 37, 38, 39, 40, 41, 42, 43, 44, 45, 46, 51, 52, 53, 54, 55, 56, 57, 58, 59, 60, 61, 62, 63, 64, 65, 66, 67, 68, 69, 70, 71, 72, 73, 74, 75, 76, 77, 78] (by decide +kernel) (by decide +kernel)
set_option maxRecDepth 20000 in
theorem gX8_reason_X1_reasonAgainst : GoodIn wsX8_reason (wsV RX8 143 RX1 yX1_reasonAgainst wsX1_reasonAgainst) := goodIn_app (goodIn_of _ (by decide +kernel)) ggX8_reason_X1_reasonAgainst
set_option maxRecDepth 20000 in
theorem ggX8_exemptible_X8_needTeam : GoodIn wsX8_exemptible wsX8_needTeam := goodIn_ca (goodIn_r _ [6, 7, 8, 1, 9, 10, 11, 12, 13, 14, 15, 49, 50, 51, 52, 53, 54, 55, 56, 57, 58, 59, 60, 61, 62, 63] (by decide +kernel) (by decide +kernel)) (goodIn_sub (fun _ h => List.mem_cons_of_mem _ (List.mem_append_right _ h)) (by decide +kernel))
set_option maxRecDepth 20000 in
theorem gX8_exemptible_X8_needTeam : GoodIn wsX8_exemptible (wsV RX8 76 RX8 yX8_needTeam wsX8_needTeam) := goodIn_app (goodIn_of _ (by decide +kernel)) ggX8_exemptible_X8_needTeam
set_option maxRecDepth 20000 in
theorem ggX8_exemptible_X1_countExemptible : GoodIn wsX8_exemptible wsX1_countExemptible := goodIn_r _ [20, 21, 22, 23, 24, 25, 26, 27, 28, 29, 30, 31, 19, 32, 33, 34, 35, 36, 37, 38, 39, 40, 41, 42, 43, 44, 45, 46, 47, 48, 53, 54, 55, 56, 57, 58, 59, 60, 61, 62, 63, 64, 65, 66, 67, 68, 69, 70, 71, 72, 73, 74, 75, 76, 77, 78, 79, 80] (by decide +kernel) (by decide +kernel)
set_option maxRecDepth 20000 in
theorem gX8_exemptible_X1_countExemptible : GoodIn wsX8_exemptible (wsV RX8 146 RX1 yX1_countExemptible wsX1_countExemptible) := goodIn_app (goodIn_of _ (by decide +kernel)) ggX8_exemptible_X1_countExemptible
set_option maxRecDepth 20000 in
theorem ggX8_weeksUntil_X8_needTeam : GoodIn wsX8_weeksUntil wsX8_needTeam := goodIn_ca (goodIn_r _ [10, 11, 12, 1, 4, 13, 14, 15, 16, 17, 18, 128, 129, 130, 131, 132, 133, 134, 135, 136, 137, 138, 139, 140, 141, 142] (by decide +kernel) (by decide +kernel)) (goodIn_sub (fun _ h => List.mem_cons_of_mem _ (List.mem_append_left _ (List.mem_append_right _ h))) (by decide +kernel))
set_option maxRecDepth 20000 in
theorem gX8_weeksUntil_X8_needTeam : GoodIn wsX8_weeksUntil (wsV RX8 76 RX8 yX8_needTeam wsX8_needTeam) := goodIn_app (goodIn_of _ (by decide +kernel)) ggX8_weeksUntil_X8_needTeam
set_option maxRecDepth 20000 in
theorem ggX8_weeksUntil_X8_needRisk : GoodIn wsX8_weeksUntil wsX8_needRisk := goodIn_ca (goodIn_r _ [22, 23, 24, 25, 26, 9, 27] (by decide +kernel) (by decide +kernel)) (goodIn_sub (fun _ h => List.mem_cons_of_mem _ (List.mem_append_right _ h)) (by decide +kernel))
set_option maxRecDepth 20000 in
theorem gX8_weeksUntil_X8_needRisk : GoodIn wsX8_weeksUntil (wsV RX8 149 RX8 yX8_needRisk wsX8_needRisk) := goodIn_app (goodIn_of _ (by decide +kernel)) ggX8_weeksUntil_X8_needRisk
set_option maxRecDepth 20000 in
theorem ggX8_weeksUntil_X1_creditsOf : GoodIn wsX8_weeksUntil wsX1_creditsOf := goodIn_r _ [32, 33, 132, 133, 134, 135, 136, 137] (by decide +kernel) (by decide +kernel)
set_option maxRecDepth 20000 in
theorem gX8_weeksUntil_X1_creditsOf : GoodIn wsX8_weeksUntil (wsV RX8 152 RX1 yX1_creditsOf wsX1_creditsOf) := goodIn_app (goodIn_of _ (by decide +kernel)) ggX8_weeksUntil_X1_creditsOf
set_option maxRecDepth 20000 in
theorem ggX8_weeksUntil_X1_copyFrom : GoodIn wsX8_weeksUntil wsX1_copyFrom := goodIn_r _ [37, 38, 33, 39, 40, 41, 42, 43, 44, 45, 46, 47, 48, 49, 16, 50, 18, 51, 52, 53, 54, 55, 56, 57, 58, 59, 60, 61, 62, 63, 64, 65, 66, 67, 68, 69, 70, 71, 72, 73, 74, 75, 76, 77, 78, 79, 80, 81, 82, 83, 84, 132, 133, 134, 135, 136, 137, 138, 139, 140, 141, 142, 143, 144, 145, 146, 147, 148, 149, 150, 151, 152, 153, 154, 155, 156, 157, 158, 159] (by decide +kernel) (by decide +kernel)
set_option maxRecDepth 20000 in
theorem gX8_weeksUntil_X1_copyFrom : GoodIn wsX8_weeksUntil (wsV RX8 158 RX1 yX1_copyFrom wsX1_copyFrom) := goodIn_app (goodIn_of _ (by decide +kernel)) ggX8_weeksUntil_X1_copyFrom
set_option maxRecDepth 20000 in
theorem ggX8_weeksUntil_X1_closeWeek : GoodIn wsX8_weeksUntil wsX1_closeWeek := goodIn_r _ [88, 38, 89, 90, 91, 31, 92, 44, 93, 45, 33, 94, 95, 96, 59, 97, 61, 63, 66, 69, 98, 99, 100, 16, 101, 51, 102, 103, 104, 105, 106, 107, 108, 54, 109, 110, 111, 112, 46, 113, 114, 115, 116, 117, 118, 119, 120, 121, 122, 123, 124, 125, 126, 127, 132, 133, 134, 135, 136, 137, 138, 139, 140, 141, 142, 143, 144, 145, 146, 147, 148, 149, 150, 151, 152, 153, 154, 155, 156, 157, 158, 159] (by decide +kernel) (by decide +kernel)
set_option maxRecDepth 20000 in
theorem gX8_weeksUntil_X1_closeWeek : GoodIn wsX8_weeksUntil (wsV RX8 52 RX1 yX1_closeWeek wsX1_closeWeek) := goodIn_app (goodIn_of _ (by decide +kernel)) ggX8_weeksUntil_X1_closeWeek
set_option maxRecDepth 20000 in
theorem ggX8_lender_X8_needTeam : GoodIn wsX8_lender wsX8_needTeam := goodIn_ca (goodIn_r _ [8, 9, 10, 1, 2, 11, 12, 13, 14, 15, 16, 52, 53, 54, 55, 56, 57, 58, 59, 60, 61, 62, 63, 64, 65, 66] (by decide +kernel) (by decide +kernel)) (goodIn_sub (fun _ h => List.mem_cons_of_mem _ (List.mem_append_left _ (List.mem_append_right _ h))) (by decide +kernel))
set_option maxRecDepth 20000 in
theorem gX8_lender_X8_needTeam : GoodIn wsX8_lender (wsV RX8 76 RX8 yX8_needTeam wsX8_needTeam) := goodIn_app (goodIn_of _ (by decide +kernel)) ggX8_lender_X8_needTeam
set_option maxRecDepth 20000 in
theorem ggX8_lender_X8_needRisk : GoodIn wsX8_lender wsX8_needRisk := goodIn_ca (goodIn_r _ [20, 21, 22, 23, 24, 7, 25] (by decide +kernel) (by decide +kernel)) (goodIn_sub (fun _ h => List.mem_cons_of_mem _ (List.mem_append_right _ h)) (by decide +kernel))
set_option maxRecDepth 20000 in
theorem gX8_lender_X8_needRisk : GoodIn wsX8_lender (wsV RX8 149 RX8 yX8_needRisk wsX8_needRisk) := goodIn_app (goodIn_of _ (by decide +kernel)) ggX8_lender_X8_needRisk
set_option maxRecDepth 20000 in
theorem ggX8_lender_X1_creditsOf : GoodIn wsX8_lender wsX1_creditsOf := goodIn_r _ [30, 31, 56, 57, 58, 59, 60, 61] (by decide +kernel) (by decide +kernel)
set_option maxRecDepth 20000 in
theorem gX8_lender_X1_creditsOf : GoodIn wsX8_lender (wsV RX8 152 RX1 yX1_creditsOf wsX1_creditsOf) := goodIn_app (goodIn_of _ (by decide +kernel)) ggX8_lender_X1_creditsOf
set_option maxRecDepth 20000 in
theorem ggX8_lender_X1_owes : GoodIn wsX8_lender wsX1_owes := goodIn_r _ [35, 36, 37, 38, 39, 40, 41, 42, 43, 44, 45, 46, 56, 57, 58, 59, 60, 61, 67, 68, 69, 70, 71, 72, 73] (by decide +kernel) (by decide +kernel)
set_option maxRecDepth 20000 in
theorem gX8_lender_X1_owes : GoodIn wsX8_lender (wsV RX8 170 RX1 yX1_owes wsX1_owes) := goodIn_app (goodIn_of _ (by decide +kernel)) ggX8_lender_X1_owes
set_option maxRecDepth 20000 in
theorem ggX8_lender_X6_richestOther : GoodIn wsX8_lender wsX6_richestOther := goodIn_r _ [50, 16, 51, 62, 63, 64, 65, 66] (by decide +kernel) (by decide +kernel)
set_option maxRecDepth 20000 in
theorem gX8_lender_X6_richestOther : GoodIn wsX8_lender (wsV RX8 173 RX6 yX6_richestOther wsX6_richestOther) := goodIn_app (goodIn_of _ (by decide +kernel)) ggX8_lender_X6_richestOther
set_option maxRecDepth 20000 in
theorem ggX8_nextThaw_X1_firstThaw : GoodIn wsX8_nextThaw wsX1_firstThaw := goodIn_r _ [6, 7, 8, 13, 14, 15, 16, 17, 18] (by decide +kernel) (by decide +kernel)
set_option maxRecDepth 20000 in
theorem gX8_nextThaw_X1_firstThaw : GoodIn wsX8_nextThaw (wsV RX8 176 RX1 yX1_firstThaw wsX1_firstThaw) := goodIn_app (goodIn_of _ (by decide +kernel)) ggX8_nextThaw_X1_firstThaw
set_option maxRecDepth 20000 in
theorem ggX8_inBeing_X1_copyFrom : GoodIn wsX8_inBeing wsX1_copyFrom := goodIn_r _ [10, 11, 12, 13, 14, 15, 16, 17, 18, 19, 20, 21, 22, 23, 24, 25, 26, 27, 28, 29, 30, 31, 32, 33, 34, 35, 36, 37, 38, 39, 40, 41, 42, 43, 44, 45, 46, 47, 48, 49, 50, 51, 52, 53, 54, 55, 56, 57, 58, 59, 60, 121, 122, 123, 124, 125, 126, 127, 128, 129, 130, 131, 132, 133, 134, 135, 136, 137, 138, 139, 140, 141, 142, 143, 144, 145, 146, 147, 148] (by decide +kernel) (by decide +kernel)
set_option maxRecDepth 20000 in
theorem gX8_inBeing_X1_copyFrom : GoodIn wsX8_inBeing (wsV RX8 158 RX1 yX1_copyFrom wsX1_copyFrom) := goodIn_app (goodIn_of _ (by decide +kernel)) ggX8_inBeing_X1_copyFrom
set_option maxRecDepth 20000 in
theorem ggX8_inBeing_X1_closeWeek : GoodIn wsX8_inBeing wsX1_closeWeek := goodIn_r _ [64, 11, 65, 66, 67, 9, 68, 18, 69, 19, 12, 70, 71, 72, 35, 73, 37, 39, 42, 45, 74, 75, 76, 24, 77, 27, 78, 79, 80, 81, 82, 83, 84, 30, 85, 86, 87, 88, 20, 89, 90, 91, 92, 93, 94, 95, 96, 97, 98, 99, 100, 101, 102, 103, 121, 122, 123, 124, 125, 126, 127, 128, 129, 130, 131, 132, 133, 134, 135, 136, 137, 138, 139, 140, 141, 142, 143, 144, 145, 146, 147, 148] (by decide +kernel) (by decide +kernel)
set_option maxRecDepth 20000 in
theorem gX8_inBeing_X1_closeWeek : GoodIn wsX8_inBeing (wsV RX8 52 RX1 yX1_closeWeek wsX1_closeWeek) := goodIn_app (goodIn_of _ (by decide +kernel)) ggX8_inBeing_X1_closeWeek
set_option maxRecDepth 20000 in
theorem ggX8_inBeing_X1_wholeFree : GoodIn wsX8_inBeing wsX1_wholeFree := goodIn_r _ [107, 18, 97, 69, 108, 109, 110, 121, 122, 123, 124, 125, 126, 127, 128, 129, 130, 131] (by decide +kernel) (by decide +kernel)
set_option maxRecDepth 20000 in
theorem gX8_inBeing_X1_wholeFree : GoodIn wsX8_inBeing (wsV RX8 181 RX1 yX1_wholeFree wsX1_wholeFree) := goodIn_app (goodIn_of _ (by decide +kernel)) ggX8_inBeing_X1_wholeFree
set_option maxRecDepth 20000 in
theorem ggX8_inBeing_X1_wholeHeld : GoodIn wsX8_inBeing wsX1_wholeHeld := goodIn_r _ [114, 19, 115, 116, 108, 109, 110, 121, 122, 123, 124, 125, 126, 132, 133, 134, 135, 136, 137, 138, 139, 140, 141] (by decide +kernel) (by decide +kernel)
set_option maxRecDepth 20000 in
theorem gX8_inBeing_X1_wholeHeld : GoodIn wsX8_inBeing (wsV RX8 184 RX1 yX1_wholeHeld wsX1_wholeHeld) := goodIn_app (goodIn_of _ (by decide +kernel)) ggX8_inBeing_X1_wholeHeld
set_option maxRecDepth 20000 in
theorem ggX8_type_X3_append : GoodIn wsX8_type wsX3_append := goodIn_r _ [11, 12, 13, 18, 19, 20, 21, 22] (by decide +kernel) (by decide +kernel)
set_option maxRecDepth 20000 in
theorem gX8_type_X3_append : GoodIn wsX8_type (wsV RX8 197 RX3 yX3_append wsX3_append) := goodIn_app (goodIn_of _ (by decide +kernel)) ggX8_type_X3_append
set_option maxRecDepth 20000 in
theorem ggX8_runCommands_X3_findFault : GoodIn wsX8_runCommands wsX3_findFault := goodIn_r _ [8, 9, 10, 11, 7, 12, 13, 14, 15, 16, 17, 18, 19, 20, 21, 22, 23, 24, 25, 26, 27, 28, 29, 30, 31, 32, 33, 34, 35, 36, 37, 38, 39, 40, 41, 42, 43, 44, 45, 46, 47, 48, 49, 50, 51, 52, 53, 54, 55, 56, 57, 58, 59, 60, 61, 62, 63, 64, 65, 66, 67, 68, 69, 70, 71, 72, 73, 74, 75, 76, 77, 78, 79, 80, 81, 82, 83, 84, 85, 86, 87, 88, 89, 90, 91, 92, 93, 94, 95, 96, 97, 98, 99, 100, 101, 102, 103, 104, 348, 349, 350, 351, 352] (by decide +kernel) (by decide +kernel)
set_option maxRecDepth 20000 in
theorem gX8_runCommands_X3_findFault : GoodIn wsX8_runCommands (wsV RX8 200 RX3 yX3_findFault wsX3_findFault) := goodIn_app (goodIn_of _ (by decide +kernel)) ggX8_runCommands_X3_findFault
set_option maxRecDepth 20000 in
theorem ggX8_runCommands_X4_prepare : GoodIn wsX8_runCommands wsX4_prepare := goodIn_r _ [109, 110, 111, 112, 113, 114, 115, 116, 117, 118, 119, 120, 121, 122, 123, 124, 125, 126, 127, 128, 129, 130, 131, 132, 133, 134, 135, 136, 137, 138, 139, 140, 141, 142, 143, 144, 145, 146, 147, 148, 149, 150, 151, 152, 153, 154, 155, 156, 157, 158, 159, 160, 161, 162, 163, 164, 165, 166, 353, 354, 355, 356, 357, 358, 359, 360, 361, 362, 363, 364, 365, 366, 367, 368, 369, 370, 371, 372, 373, 374, 375, 376, 377, 378, 379, 380, 381, 382] (by decide +kernel) (by decide +kernel)
set_option maxRecDepth 20000 in
theorem gX8_runCommands_X4_prepare : GoodIn wsX8_runCommands (wsV RX8 33 RX4 yX4_prepare wsX4_prepare) := goodIn_app (goodIn_of _ (by decide +kernel)) ggX8_runCommands_X4_prepare
set_option maxRecDepth 20000 in
theorem ggX8_runCommands_X8_carryOutText : GoodIn wsX8_runCommands wsX8_carryOutText := goodIn_r _ [171, 1, 172, 173, 174, 10, 11, 7, 12, 13, 175, 15, 16, 17, 18, 19, 20, 21, 22, 23, 176, 25, 26, 27, 28, 29, 30, 31, 32, 33, 34, 35, 36, 37, 38, 39, 40, 41, 42, 43, 44, 45, 46, 47, 48, 49, 50, 51, 52, 53, 54, 55, 56, 57, 58, 59, 60, 61, 62, 63, 64, 65, 66, 67, 68, 69, 70, 71, 72, 73, 74, 75, 76, 77, 78, 79, 80, 81, 82, 83, 84, 85, 86, 87, 88, 89, 90, 91, 92, 93, 94, 95, 96, 97, 98, 99, 100, 101, 102, 103, 104, 177, 178, 179, 170, 180, 181, 3, 182, 183, 184, 185, 186, 187, 188, 189, 190, 191, 115, 192, 124, 193, 194, 195, 196, 130, 197, 132, 133, 135, 136, 137, 198, 199, 200, 201, 117, 123, 202, 203, 204, 205, 206, 207, 208, 209, 210, 211, 125, 212, 213, 214, 215, 216, 217, 218, 219, 220, 221, 141, 222, 143, 145, 147, 148, 149, 150, 151, 152, 223, 224, 225, 226, 144, 153, 227, 228, 229, 230, 231, 232, 233, 234, 235, 236, 237, 238, 239, 240, 241, 242, 243, 244, 245, 246, 247, 126, 248, 249, 250, 157, 251, 159, 162, 164, 165, 252, 253, 254, 255, 118, 256, 257, 258, 259, 260, 261, 262, 263, 264, 265, 266, 267, 268, 269, 270, 271, 272, 273, 274, 275, 276, 277, 278, 279, 280, 281, 282, 283, 284, 285, 286, 287, 288, 289, 290, 291, 160, 163, 166, 292, 293, 294, 295, 296, 297, 298, 299, 300, 301, 302, 303, 304, 305, 306, 307, 308, 309, 310, 311, 312, 313, 314, 315, 316, 317, 318, 319, 320, 321, 322, 323, 324, 325, 326, 327, 328, 329, 330, 331, 332, 333, 334, 335, 336, 337, 338, 339, 344, 345, 346, 347, 348, 349, 350, 351, 352, 355, 356, 357, 358, 359, 360, 361, 362, 363, 364, 365, 366, 367, 368, 369, 370, 371, 372, 373, 374, 375, 376, 377, 378, 379, 380, 381, 382] (by decide +kernel) (by decide +kernel)
set_option maxRecDepth 20000 in
theorem gX8_runCommands_X8_carryOutText : GoodIn wsX8_runCommands (wsV RX8 203 RX8 yX8_carryOutText wsX8_carryOutText) := goodIn_app (goodIn_of _ (by decide +kernel)) ggX8_runCommands_X8_carryOutText
set_option maxRecDepth 20000 in
theorem ggX8_runCommands_X4_keep : GoodIn wsX8_runCommands wsX4_keep := goodIn_r _ [343, 111, 110, 353, 354] (by decide +kernel) (by decide +kernel)
set_option maxRecDepth 20000 in
theorem gX8_runCommands_X4_keep : GoodIn wsX8_runCommands (wsV RX8 206 RX4 yX4_keep wsX4_keep) := goodIn_app (goodIn_of _ (by decide +kernel)) ggX8_runCommands_X4_keep
set_option maxRecDepth 20000 in
theorem ggX8_undo_X4_restore : GoodIn wsX8_undo wsX4_restore := goodIn_r _ [10, 11, 12, 13, 14, 15, 16, 17, 18, 19, 20, 21, 22, 23, 24, 25, 26, 27, 28, 29, 30, 31, 32, 33, 34, 35, 36, 37, 38, 39, 40, 41, 42, 43, 44, 45, 46, 47, 48, 49, 50, 51, 52, 53, 54, 55, 56, 57, 58, 59, 60, 61, 62, 63, 64, 65, 66, 67, 72, 73, 74, 75, 76, 77, 78, 79, 80, 81, 82, 83, 84, 85, 86, 87, 88, 89, 90, 91, 92, 93, 94, 95, 96, 97, 98, 99, 100, 101] (by decide +kernel) (by decide +kernel)
set_option maxRecDepth 20000 in
theorem gX8_undo_X4_restore : GoodIn wsX8_undo (wsV RX8 214 RX4 yX4_restore wsX4_restore) := goodIn_app (goodIn_of _ (by decide +kernel)) ggX8_undo_X4_restore
set_option maxRecDepth 20000 in
theorem ggX8_digest_X8_mix : GoodIn wsX8_digest wsX8_mix := goodIn_r _ [9, 10] (by decide +kernel) (by decide +kernel)
set_option maxRecDepth 20000 in
theorem gX8_digest_X8_mix : GoodIn wsX8_digest (va_wsS RX8 220 yX8_mix wsX8_mix) := goodIn_app (goodIn_of _ (by decide +kernel)) ggX8_digest_X8_mix
set_option maxRecDepth 20000 in
theorem ggX8_digest_X8_wholeValue : GoodIn wsX8_digest wsX8_wholeValue := goodIn_r _ [14, 15, 16, 4, 17, 18, 19, 20, 21, 22, 23, 24, 25, 26, 27, 28, 29, 30, 31, 32, 33, 34, 35, 36, 37, 38, 39, 40, 41, 42, 43, 44, 45, 8, 46, 47, 48, 49, 50, 51, 52, 53, 54, 55, 56, 57, 58, 59, 60, 61, 62, 63, 64, 65, 66, 67, 68, 69, 70, 71, 72, 73, 74, 75, 76, 77, 78, 79, 159, 160, 161, 162, 171, 172, 173, 174, 175, 165, 166, 167, 168, 169, 170, 176, 177, 178, 179, 180, 181, 182, 183, 184, 185, 186, 187, 188, 189, 190, 191, 192, 193, 194, 195, 196, 197] (by decide +kernel) (by decide +kernel)
set_option maxRecDepth 20000 in
theorem gX8_digest_X8_wholeValue : GoodIn wsX8_digest (wsV RX8 140 RX8 yX8_wholeValue wsX8_wholeValue) := goodIn_app (goodIn_of _ (by decide +kernel)) ggX8_digest_X8_wholeValue
set_option maxRecDepth 20000 in
theorem ggX8_digest_X8_asNumber : GoodIn wsX8_digest wsX8_asNumber := goodIn_r _ [46] (by decide +kernel) (by decide +kernel)
set_option maxRecDepth 20000 in
theorem gX8_digest_X8_asNumber : GoodIn wsX8_digest (va_wsS RX8 136 yX8_asNumber wsX8_asNumber) := goodIn_app (goodIn_of _ (by decide +kernel)) ggX8_digest_X8_asNumber
set_option maxRecDepth 20000 in
theorem ggX8_digest_X8_mixTeams : GoodIn wsX8_digest wsX8_mixTeams := goodIn_r _ [84, 4, 85, 86, 87, 88, 89, 20, 90, 22, 51, 24, 31, 32, 26, 29, 91, 92, 93, 62, 94, 64, 95, 96, 97, 98, 99, 100, 65, 101, 102, 103, 36, 104, 38, 105, 39, 106, 107, 108, 109, 78, 70, 71, 72, 73, 74, 75, 76, 77, 79, 45, 8, 46, 110, 111, 112, 113, 114, 6, 7, 9, 10, 115, 116, 117, 118, 119, 120, 121, 122, 123, 124, 125, 126, 127, 28, 159, 160, 161, 162, 165, 166, 167, 168, 169, 170, 176, 177, 178, 179, 180, 181, 182, 183, 184, 185, 186, 187, 188, 189, 190, 191, 192, 193, 194, 195, 196, 197] (by decide +kernel) (by decide +kernel)
set_option maxRecDepth 20000 in
theorem gX8_digest_X8_mixTeams : GoodIn wsX8_digest (wsV RX8 224 RX8 yX8_mixTeams wsX8_mixTeams) := goodIn_app (goodIn_of _ (by decide +kernel)) ggX8_digest_X8_mixTeams
set_option maxRecDepth 20000 in
theorem ggX8_digest_X8_mixChanges : GoodIn wsX8_digest wsX8_mixChanges := goodIn_r _ [131, 4, 132, 133, 134, 135, 136, 137, 138, 62, 139, 95, 140, 65, 96, 141, 114, 142, 6, 7, 8, 9, 10, 159, 160, 161, 162, 165, 166, 167, 168, 169, 170, 181, 182, 183, 184, 185, 186, 187, 188, 189, 190] (by decide +kernel) (by decide +kernel)
set_option maxRecDepth 20000 in
theorem gX8_digest_X8_mixChanges : GoodIn wsX8_digest (wsV RX8 228 RX8 yX8_mixChanges wsX8_mixChanges) := goodIn_app (goodIn_of _ (by decide +kernel)) ggX8_digest_X8_mixChanges
set_option maxRecDepth 20000 in
theorem ggX8_digest_X8_mixLoans : GoodIn wsX8_digest wsX8_mixLoans := goodIn_r _ [146, 4, 147, 148, 149, 150, 151, 36, 152, 105, 78, 153, 39, 79, 154, 6, 7, 8, 9, 10, 159, 160, 161, 162, 165, 166, 167, 168, 169, 170, 191, 192, 193, 194, 195, 196, 197] (by decide +kernel) (by decide +kernel)
set_option maxRecDepth 20000 in
theorem gX8_digest_X8_mixLoans : GoodIn wsX8_digest (wsV RX8 231 RX8 yX8_mixLoans wsX8_mixLoans) := goodIn_app (goodIn_of _ (by decide +kernel)) ggX8_digest_X8_mixLoans
set_option maxRecDepth 20000 in
theorem ggX8_digest_X1_firstThaw : GoodIn wsX8_digest wsX1_firstThaw := goodIn_r _ [158, 29, 44, 165, 166, 167, 168, 169, 170] (by decide +kernel) (by decide +kernel)
set_option maxRecDepth 20000 in
theorem gX8_digest_X1_firstThaw : GoodIn wsX8_digest (wsV RX8 176 RX1 yX1_firstThaw wsX1_firstThaw) := goodIn_app (goodIn_of _ (by decide +kernel)) ggX8_digest_X1_firstThaw
set_option maxRecDepth 20000 in
theorem ggX8_settle_X4_keep : GoodIn wsX8_settle wsX4_keep := goodIn_r _ [12, 13, 14, 19, 20] (by decide +kernel) (by decide +kernel)
set_option maxRecDepth 20000 in
theorem gX8_settle_X4_keep : GoodIn wsX8_settle (wsV RX8 206 RX4 yX4_keep wsX4_keep) := goodIn_app (goodIn_of _ (by decide +kernel)) ggX8_settle_X4_keep
set_option maxRecDepth 20000 in
theorem ggX8_needTeam_X6_has : GoodIn wsX8_needTeam wsX6_has := goodIn_r _ [9, 10, 21, 22, 23, 24, 25] (by decide +kernel) (by decide +kernel)
set_option maxRecDepth 20000 in
theorem gX8_needTeam_X6_has : GoodIn wsX8_needTeam (wsV RX8 240 RX6 yX6_has wsX6_has) := goodIn_app (goodIn_of _ (by decide +kernel)) ggX8_needTeam_X6_has
set_option maxRecDepth 20000 in
theorem ggX8_needChange_X2_has : GoodIn wsX8_needChange wsX2_has := goodIn_r _ [9, 10, 21, 22, 23, 24, 25, 26, 27, 28, 29, 30] (by decide +kernel) (by decide +kernel)
set_option maxRecDepth 20000 in
theorem gX8_needChange_X2_has : GoodIn wsX8_needChange (wsV RX8 243 RX2 yX2_has wsX2_has) := goodIn_app (goodIn_of _ (by decide +kernel)) ggX8_needChange_X2_has
set_option maxRecDepth 20000 in
theorem ggX8_needRisk_X8_isRisk : GoodIn wsX8_needRisk wsX8_isRisk := goodIn_r _ [6] (by decide +kernel) (by decide +kernel)
set_option maxRecDepth 20000 in
theorem gX8_needRisk_X8_isRisk : GoodIn wsX8_needRisk (va_wsS RX8 246 yX8_isRisk wsX8_isRisk) := goodIn_app (goodIn_of _ (by decide +kernel)) ggX8_needRisk_X8_isRisk
set_option maxRecDepth 20000 in
theorem ggX8_wholeValue_X1_valueOfAll : GoodIn wsX8_wholeValue wsX1_valueOfAll := goodIn_r _ [8, 9, 10, 11, 12, 13, 14, 15, 16, 17, 18, 19, 20, 21, 22, 23, 24, 25, 26, 27, 28, 29, 7, 30, 31, 32, 33, 34, 35, 36, 37, 38, 39, 40, 41, 42, 43, 44, 45, 46, 47, 48, 49, 50, 51, 52, 53, 54, 55, 56, 57, 58, 59, 60, 61, 62, 63, 64, 65, 66, 67, 77, 78, 79, 80, 81, 82, 83, 84, 85, 86, 87, 88, 89, 90, 91, 92, 93, 94, 95, 96, 97, 98, 99, 100, 101, 102, 103, 104] (by decide +kernel) (by decide +kernel)
set_option maxRecDepth 20000 in
theorem gX8_wholeValue_X1_valueOfAll : GoodIn wsX8_wholeValue (wsV RX8 253 RX1 yX1_valueOfAll wsX1_valueOfAll) := goodIn_app (goodIn_of _ (by decide +kernel)) ggX8_wholeValue_X1_valueOfAll
set_option maxRecDepth 20000 in
theorem ggX8_carryOutText_X3_rewind : GoodIn wsX8_carryOutText wsX3_rewind := goodIn_r _ [8, 9, 302, 303, 304, 305, 306] (by decide +kernel) (by decide +kernel)
set_option maxRecDepth 20000 in
theorem gX8_carryOutText_X3_rewind : GoodIn wsX8_carryOutText (wsV RX8 256 RX3 yX3_rewind wsX3_rewind) := goodIn_app (goodIn_of _ (by decide +kernel)) ggX8_carryOutText_X3_rewind
set_option maxRecDepth 20000 in
theorem ggX8_carryOutText_X3_hasMore : GoodIn wsX8_carryOutText wsX3_hasMore := goodIn_r _ [13, 9, 14, 15, 16, 17, 7, 18, 19, 302, 303, 304, 305, 306] (by decide +kernel) (by decide +kernel)
set_option maxRecDepth 20000 in
theorem gX8_carryOutText_X3_hasMore : GoodIn wsX8_carryOutText (wsV RX8 259 RX3 yX3_hasMore wsX3_hasMore) := goodIn_app (goodIn_of _ (by decide +kernel)) ggX8_carryOutText_X3_hasMore
set_option maxRecDepth 20000 in
theorem ggX8_carryOutText_X3_readCommand : GoodIn wsX8_carryOutText wsX3_readCommand := goodIn_r _ [23, 9, 24, 25, 26, 27, 28, 7, 29, 14, 19, 30, 31, 32, 33, 34, 35, 36, 37, 38, 39, 40, 41, 42, 43, 44, 45, 46, 47, 48, 49, 50, 51, 52, 53, 54, 55, 56, 57, 58, 59, 60, 61, 62, 63, 64, 65, 66, 67, 68, 69, 70, 71, 72, 73, 74, 75, 76, 77, 78, 79, 80, 81, 82, 83, 84, 85, 86, 87, 88, 89, 90, 91, 92, 93, 94, 95, 96, 97, 15, 16, 17, 18, 98, 99, 100, 302, 303, 304, 305, 306] (by decide +kernel) (by decide +kernel)
set_option maxRecDepth 20000 in
theorem gX8_carryOutText_X3_readCommand : GoodIn wsX8_carryOutText (wsV RX8 263 RX3 yX3_readCommand wsX3_readCommand) := goodIn_app (goodIn_of _ (by decide +kernel)) ggX8_carryOutText_X3_readCommand
set_option maxRecDepth 20000 in
theorem ggX8_carryOutText_X8_carryOut : GoodIn wsX8_carryOutText wsX8_carryOut := goodIn_r _ [105, 106, 107, 108, 109, 110, 111, 112, 113, 114, 115, 116, 117, 118, 119, 120, 121, 122, 123, 124, 125, 126, 127, 128, 129, 130, 131, 132, 133, 134, 135, 136, 137, 138, 139, 140, 141, 142, 104, 143, 144, 145, 146, 147, 148, 149, 150, 151, 152, 153, 154, 155, 156, 157, 158, 159, 160, 161, 162, 163, 164, 165, 166, 167, 168, 169, 170, 171, 172, 173, 174, 175, 176, 177, 178, 179, 180, 181, 182, 183, 184, 185, 186, 187, 188, 189, 190, 191, 192, 193, 194, 195, 196, 197, 198, 199, 200, 201, 202, 203, 204, 205, 206, 207, 208, 209, 210, 211, 212, 213, 214, 215, 216, 217, 218, 219, 220, 221, 222, 223, 224, 225, 226, 227, 228, 229, 230, 231, 232, 233, 234, 235, 236, 237, 238, 239, 240, 241, 242, 243, 244, 245, 246, 247, 248, 249, 250, 251, 252, 253, 254, 255, 256, 257, 258, 259, 260, 261, 262, 263, 264, 265, 266, 267, 268, 269, 270, 271, 272, 273, 274, 275, 276, 277, 278, 279, 280, 281, 282, 283, 284, 285, 286, 287, 288, 289, 290, 291, 292, 293, 294, 295, 296, 297, 298, 299, 300, 301, 307, 308, 309, 310, 311, 312, 313, 314, 315, 316, 317, 318, 319, 320, 321, 322, 323, 324, 325, 326, 327, 328, 329, 330, 331, 332, 333, 334] (by decide +kernel) (by decide +kernel)
set_option maxRecDepth 20000 in
theorem gX8_carryOutText_X8_carryOut : GoodIn wsX8_carryOutText (wsV RX8 273 RX8 yX8_carryOut wsX8_carryOut) := goodIn_app (goodIn_of _ (by decide +kernel)) ggX8_carryOutText_X8_carryOut
set_option maxRecDepth 20000 in
theorem ggX8_carryOut_Jx29ce0_ordinal_8abf5 : GoodIn wsX8_carryOut wsJx29ce0_ordinal_8abf5 := goodIn_r _ [8, 9] (by decide +kernel) (by decide +kernel)
set_option maxRecDepth 20000 in
set_option maxRecDepth 20000 in
theorem ggX8_carryOut_X1_bringTeam : GoodIn wsX8_carryOut wsX1_bringTeam := goodIn_r _ [14, 15, 16, 17, 18, 19, 20, 21, 22, 23, 24, 25, 26, 198, 199, 200, 201, 202, 203, 204, 205, 206, 207, 208] (by decide +kernel) (by decide +kernel)
set_option maxRecDepth 20000 in
theorem gX8_carryOut_X1_bringTeam : GoodIn wsX8_carryOut (wsV RX8 37 RX1 yX1_bringTeam wsX1_bringTeam) := goodIn_app (goodIn_of _ (by decide +kernel)) ggX8_carryOut_X1_bringTeam
set_option maxRecDepth 20000 in
theorem ggX8_carryOut_X1_markWeeks : GoodIn wsX8_carryOut wsX1_markWeeks := goodIn_r _ [30, 31, 32, 33, 34, 35, 13, 36, 37, 38, 39, 198, 199, 200, 201, 202, 203] (by decide +kernel) (by decide +kernel)
set_option maxRecDepth 20000 in
theorem gX8_carryOut_X1_markWeeks : GoodIn wsX8_carryOut (wsV RX8 44 RX1 yX1_markWeeks wsX1_markWeeks) := goodIn_app (goodIn_of _ (by decide +kernel)) ggX8_carryOut_X1_markWeeks
set_option maxRecDepth 20000 in
theorem ggX8_carryOut_X1_enterChange : GoodIn wsX8_carryOut wsX1_enterChange := goodIn_r _ [43, 15, 44, 45, 31, 46, 47, 48, 20, 49, 22, 50, 38, 51, 52, 53, 54, 55, 56, 57, 58, 59, 60, 61, 62, 63, 64, 65, 66, 67, 68, 69, 70, 198, 199, 200, 201, 202, 203, 209, 210, 211, 212, 213, 214, 215, 216, 217, 218, 204, 205, 206, 207, 208] (by decide +kernel) (by decide +kernel)
set_option maxRecDepth 20000 in
theorem gX8_carryOut_X1_enterChange : GoodIn wsX8_carryOut (wsV RX8 56 RX1 yX1_enterChange wsX1_enterChange) := goodIn_app (goodIn_of _ (by decide +kernel)) ggX8_carryOut_X1_enterChange
set_option maxRecDepth 20000 in
theorem ggX8_carryOut_X1_exemptChange : GoodIn wsX8_carryOut wsX1_exemptChange := goodIn_r _ [74, 44, 75, 15, 76, 77, 78, 79, 80, 81, 82, 55, 83, 57, 84, 85, 86, 13, 87, 88, 89, 90, 91, 92, 31, 93, 94, 95, 96, 97, 98, 99, 100, 101, 102, 103, 104, 105, 106, 198, 199, 200, 201, 202, 203, 209, 210, 211, 212, 213, 214, 215, 216, 217, 218, 204, 205, 206, 207, 208, 219, 220, 221, 222, 223, 224, 225] (by decide +kernel) (by decide +kernel)
set_option maxRecDepth 20000 in
theorem gX8_carryOut_X1_exemptChange : GoodIn wsX8_carryOut (wsV RX8 59 RX1 yX1_exemptChange wsX1_exemptChange) := goodIn_app (goodIn_of _ (by decide +kernel)) ggX8_carryOut_X1_exemptChange
set_option maxRecDepth 20000 in
theorem ggX8_carryOut_X1_makeChange : GoodIn wsX8_carryOut wsX1_makeChange := goodIn_r _ [110, 44, 79, 32, 31, 111, 112, 77, 15, 76, 106, 75, 113, 114, 115, 116, 117, 80, 81, 82, 55, 83, 57, 118, 119, 120, 121, 60, 37, 38, 39, 122, 123, 124, 125, 61, 126, 127, 128, 129, 69, 70, 198, 199, 200, 201, 202, 203, 209, 210, 211, 212, 213, 214, 215, 216, 217, 218, 204, 205, 206, 207, 208] (by decide +kernel) (by decide +kernel)
set_option maxRecDepth 20000 in
theorem gX8_carryOut_X1_makeChange : GoodIn wsX8_carryOut (wsV RX8 62 RX1 yX1_makeChange wsX1_makeChange) := goodIn_app (goodIn_of _ (by decide +kernel)) ggX8_carryOut_X1_makeChange
set_option maxRecDepth 20000 in
theorem ggX8_carryOut_X1_dropChange : GoodIn wsX8_carryOut wsX1_dropChange := goodIn_r _ [133, 44, 15, 76, 77, 80, 81, 82, 55, 83, 57, 118, 119, 120, 121, 60, 122, 123, 124, 125, 61, 126, 127, 128, 129, 69, 70, 198, 199, 200, 201, 202, 203, 204, 205, 206, 207, 208, 209, 210, 211, 212, 213, 214, 215, 216, 217, 218] (by decide +kernel) (by decide +kernel)
set_option maxRecDepth 20000 in
theorem gX8_carryOut_X1_dropChange : GoodIn wsX8_carryOut (wsV RX8 66 RX1 yX1_dropChange wsX1_dropChange) := goodIn_app (goodIn_of _ (by decide +kernel)) ggX8_carryOut_X1_dropChange
set_option maxRecDepth 20000 in
theorem ggX8_carryOut_X1_lendCredits : GoodIn wsX8_carryOut wsX1_lendCredits := goodIn_r _ [137, 15, 31, 92, 138, 76, 46, 47, 48, 20, 49, 22, 88, 89, 90, 13, 91, 93, 94, 95, 96, 97, 98, 99, 100, 101, 139, 140, 141, 142, 143, 144, 145, 198, 199, 200, 201, 202, 203, 219, 220, 221, 222, 223, 224, 225, 204, 205, 206, 207, 208] (by decide +kernel) (by decide +kernel)
set_option maxRecDepth 20000 in
theorem gX8_carryOut_X1_lendCredits : GoodIn wsX8_carryOut (wsV RX8 69 RX1 yX1_lendCredits wsX1_lendCredits) := goodIn_app (goodIn_of _ (by decide +kernel)) ggX8_carryOut_X1_lendCredits
set_option maxRecDepth 20000 in
theorem ggX8_carryOut_X1_repayLoan : GoodIn wsX8_carryOut wsX1_repayLoan := goodIn_r _ [149, 92, 150, 151, 152, 153, 96, 154, 98, 155, 156, 157, 13, 158, 15, 76, 159, 160, 161, 162, 163, 164, 198, 199, 200, 201, 202, 203, 219, 220, 221, 222, 223, 224, 225, 204, 205, 206, 207, 208] (by decide +kernel) (by decide +kernel)
set_option maxRecDepth 20000 in
theorem gX8_carryOut_X1_repayLoan : GoodIn wsX8_carryOut (wsV RX8 73 RX1 yX1_repayLoan wsX1_repayLoan) := goodIn_app (goodIn_of _ (by decide +kernel)) ggX8_carryOut_X1_repayLoan
set_option maxRecDepth 20000 in
theorem ggX8_carryOut_X1_changeSetting : GoodIn wsX8_carryOut wsX1_changeSetting := goodIn_r _ [168, 106, 198, 199, 200, 201, 202, 203] (by decide +kernel) (by decide +kernel)
set_option maxRecDepth 20000 in
theorem gX8_carryOut_X1_changeSetting : GoodIn wsX8_carryOut (wsV RX8 48 RX1 yX1_changeSetting wsX1_changeSetting) := goodIn_app (goodIn_of _ (by decide +kernel)) ggX8_carryOut_X1_changeSetting
set_option maxRecDepth 20000 in
theorem ggX8_carryOut_X1_closeWeek : GoodIn wsX8_carryOut wsX1_closeWeek := goodIn_r _ [172, 31, 173, 174, 175, 13, 176, 15, 16, 44, 106, 177, 178, 179, 55, 180, 57, 58, 60, 63, 181, 182, 183, 20, 184, 23, 185, 114, 115, 116, 186, 187, 188, 25, 189, 190, 191, 192, 92, 138, 193, 150, 113, 155, 156, 157, 158, 76, 159, 160, 161, 162, 163, 164, 198, 199, 200, 201, 202, 203, 204, 205, 206, 207, 208, 209, 210, 211, 212, 213, 214, 215, 216, 217, 218, 219, 220, 221, 222, 223, 224, 225] (by decide +kernel) (by decide +kernel)
set_option maxRecDepth 20000 in
theorem gX8_carryOut_X1_closeWeek : GoodIn wsX8_carryOut (wsV RX8 52 RX1 yX1_closeWeek wsX1_closeWeek) := goodIn_app (goodIn_of _ (by decide +kernel)) ggX8_carryOut_X1_closeWeek
set_option maxRecDepth 20000 in
theorem ggX8_mixTeams_X1_teamValue : GoodIn wsX8_mixTeams wsX1_teamValue := goodIn_r _ [8, 9, 10, 11, 12, 13, 14, 15, 16, 17, 18, 19, 20, 21, 22, 23, 24, 25, 26, 27, 28, 29, 30, 31, 32, 33, 34, 35, 36, 37, 38, 39, 40, 41, 42, 43, 44, 7, 45, 46, 47, 48, 49, 50, 51, 52, 53, 54, 55, 56, 57, 58, 81, 82, 83, 84, 85, 86, 87, 88, 89, 90, 91, 92, 93, 94, 95, 96, 97, 98, 99, 100, 101, 102, 103, 104, 105, 106, 107, 108] (by decide +kernel) (by decide +kernel)
set_option maxRecDepth 20000 in
theorem gX8_mixTeams_X1_teamValue : GoodIn wsX8_mixTeams (wsV RX8 84 RX1 yX1_teamValue wsX1_teamValue) := goodIn_app (goodIn_of _ (by decide +kernel)) ggX8_mixTeams_X1_teamValue
set_option maxRecDepth 20000 in
theorem ggX8_mixTeams_X8_mix : GoodIn wsX8_mixTeams wsX8_mix := goodIn_r _ [61, 62] (by decide +kernel) (by decide +kernel)
set_option maxRecDepth 20000 in
theorem gX8_mixTeams_X8_mix : GoodIn wsX8_mixTeams (va_wsS RX8 220 yX8_mix wsX8_mix) := goodIn_app (goodIn_of _ (by decide +kernel)) ggX8_mixTeams_X8_mix
set_option maxRecDepth 20000 in
theorem ggX8_mixTeams_X1_countExemptible : GoodIn wsX8_mixTeams wsX1_countExemptible := goodIn_r _ [66, 9, 10, 11, 67, 68, 69, 70, 71, 42, 43, 44, 7, 45, 14, 15, 46, 47, 48, 32, 49, 34, 41, 36, 50, 72, 73, 74, 75, 76, 81, 82, 83, 84, 85, 86, 87, 88, 89, 90, 91, 92, 93, 94, 95, 96, 97, 98, 99, 100, 101, 102, 103, 104, 105, 106, 107, 108] (by decide +kernel) (by decide +kernel)
set_option maxRecDepth 20000 in
theorem gX8_mixTeams_X1_countExemptible : GoodIn wsX8_mixTeams (wsV RX8 146 RX1 yX1_countExemptible wsX1_countExemptible) := goodIn_app (goodIn_of _ (by decide +kernel)) ggX8_mixTeams_X1_countExemptible
set_option maxRecDepth 20000 in
theorem ggX8_mixChanges_X2_value : GoodIn wsX8_mixChanges wsX2_value := goodIn_r _ [10, 11, 12, 13, 14, 15, 16, 17, 33, 34, 35, 36, 37, 38, 39, 40, 41, 42] (by decide +kernel) (by decide +kernel)
set_option maxRecDepth 20000 in
theorem gX8_mixChanges_X2_value : GoodIn wsX8_mixChanges (wsV RX8 94 RX2 yX2_value wsX2_value) := goodIn_app (goodIn_of _ (by decide +kernel)) ggX8_mixChanges_X2_value
set_option maxRecDepth 20000 in
theorem ggX8_mixChanges_X8_mix : GoodIn wsX8_mixChanges wsX8_mix := goodIn_r _ [21, 22] (by decide +kernel) (by decide +kernel)
set_option maxRecDepth 20000 in
theorem gX8_mixChanges_X8_mix : GoodIn wsX8_mixChanges (va_wsS RX8 220 yX8_mix wsX8_mix) := goodIn_app (goodIn_of _ (by decide +kernel)) ggX8_mixChanges_X8_mix
set_option maxRecDepth 20000 in
theorem ggX8_mixLoans_X5_value : GoodIn wsX8_mixLoans wsX5_value := goodIn_r _ [8, 9, 10, 11, 12, 13, 14, 30, 31, 32, 33, 34, 35, 36] (by decide +kernel) (by decide +kernel)
set_option maxRecDepth 20000 in
theorem gX8_mixLoans_X5_value : GoodIn wsX8_mixLoans (wsV RX8 116 RX5 yX5_value wsX5_value) := goodIn_app (goodIn_of _ (by decide +kernel)) ggX8_mixLoans_X5_value
set_option maxRecDepth 20000 in
theorem ggX8_mixLoans_X8_mix : GoodIn wsX8_mixLoans wsX8_mix := goodIn_r _ [18, 19] (by decide +kernel) (by decide +kernel)
set_option maxRecDepth 20000 in
theorem gX8_mixLoans_X8_mix : GoodIn wsX8_mixLoans (va_wsS RX8 220 yX8_mix wsX8_mix) := goodIn_app (goodIn_of _ (by decide +kernel)) ggX8_mixLoans_X8_mix
set_option maxRecDepth 20000 in
theorem ggX9_isTeam_X9_in : GoodIn wsX9_isTeam wsX9_in := goodIn_r _ [5] (by decide +kernel) (by decide +kernel)
set_option maxRecDepth 20000 in
theorem gX9_isTeam_X9_in : GoodIn wsX9_isTeam (va_wsS RX9 29 yX9_in wsX9_in) := goodIn_app (goodIn_of _ (by decide +kernel)) ggX9_isTeam_X9_in
set_option maxRecDepth 20000 in
theorem ggX9_isChange_X9_in : GoodIn wsX9_isChange wsX9_in := goodIn_r _ [5] (by decide +kernel) (by decide +kernel)
set_option maxRecDepth 20000 in
theorem gX9_isChange_X9_in : GoodIn wsX9_isChange (va_wsS RX9 29 yX9_in wsX9_in) := goodIn_app (goodIn_of _ (by decide +kernel)) ggX9_isChange_X9_in
set_option maxRecDepth 20000 in
theorem ggX9_isLoan_X9_in : GoodIn wsX9_isLoan wsX9_in := goodIn_r _ [5] (by decide +kernel) (by decide +kernel)
set_option maxRecDepth 20000 in
theorem gX9_isLoan_X9_in : GoodIn wsX9_isLoan (va_wsS RX9 29 yX9_in wsX9_in) := goodIn_app (goodIn_of _ (by decide +kernel)) ggX9_isLoan_X9_in
set_option maxRecDepth 20000 in
theorem ggX9_owes_X9_loanOf : GoodIn wsX9_owes wsX9_loanOf := goodIn_r _ [6, 1, 7, 8, 9, 10, 11, 12, 13, 14, 15, 16, 17, 18, 19] (by decide +kernel) (by decide +kernel)
set_option maxRecDepth 20000 in
theorem gX9_owes_X9_loanOf : GoodIn wsX9_owes (wsV RX9 33 RX9 yX9_loanOf wsX9_loanOf) := goodIn_app (goodIn_of _ (by decide +kernel)) ggX9_owes_X9_loanOf
set_option maxRecDepth 20000 in
theorem ggX9_ends_X9_fails : GoodIn wsX9_ends wsX9_fails := goodIn_r _ [6, 7, 19, 20, 21, 22, 23, 24, 25, 26, 27, 28, 29, 30, 31] (by decide +kernel) (by decide +kernel)
set_option maxRecDepth 20000 in
theorem gX9_ends_X9_fails : GoodIn wsX9_ends (wsV RX9 40 RX9 yX9_fails wsX9_fails) := goodIn_app (goodIn_of _ (by decide +kernel)) ggX9_ends_X9_fails
set_option maxRecDepth 20000 in
theorem ggX9_ends_X9_saves : GoodIn wsX9_ends wsX9_saves := goodIn_r _ [11, 12, 13, 14, 19, 20, 21, 22, 23, 24, 25, 26, 27, 28, 29, 30, 31] (by decide +kernel) (by decide +kernel)
set_option maxRecDepth 20000 in
theorem gX9_ends_X9_saves : GoodIn wsX9_ends (wsV RX9 44 RX9 yX9_saves wsX9_saves) := goodIn_app (goodIn_of _ (by decide +kernel)) ggX9_ends_X9_saves
set_option maxRecDepth 20000 in
theorem ggX9_ends_X9_well : GoodIn wsX9_ends wsX9_well := goodIn_r _ [18, 7, 19, 20, 21, 22, 23, 24, 25, 26, 27, 28, 29, 30, 31] (by decide +kernel) (by decide +kernel)
set_option maxRecDepth 20000 in
theorem gX9_ends_X9_well : GoodIn wsX9_ends (wsV RX9 50 RX9 yX9_well wsX9_well) := goodIn_app (goodIn_of _ (by decide +kernel)) ggX9_ends_X9_well
set_option maxRecDepth 20000 in
theorem ggX9_undo_X9_fails : GoodIn wsX9_undo wsX9_fails := goodIn_r _ [8, 9, 14, 15, 16, 17, 18, 19, 20, 21, 22, 23, 24, 25, 26] (by decide +kernel) (by decide +kernel)
set_option maxRecDepth 20000 in
theorem gX9_undo_X9_fails : GoodIn wsX9_undo (wsV RX9 40 RX9 yX9_fails wsX9_fails) := goodIn_app (goodIn_of _ (by decide +kernel)) ggX9_undo_X9_fails
set_option maxRecDepth 20000 in
theorem ggX9_undo_X9_well : GoodIn wsX9_undo wsX9_well := goodIn_r _ [13, 9, 14, 15, 16, 17, 18, 19, 20, 21, 22, 23, 24, 25, 26] (by decide +kernel) (by decide +kernel)
set_option maxRecDepth 20000 in
theorem gX9_undo_X9_well : GoodIn wsX9_undo (wsV RX9 50 RX9 yX9_well wsX9_well) := goodIn_app (goodIn_of _ (by decide +kernel)) ggX9_undo_X9_well
set_option maxRecDepth 20000 in
theorem ggX9_teamComes_X9_in : GoodIn wsX9_teamComes wsX9_in := goodIn_r _ [6] (by decide +kernel) (by decide +kernel)
set_option maxRecDepth 20000 in
theorem gX9_teamComes_X9_in : GoodIn wsX9_teamComes (va_wsS RX9 29 yX9_in wsX9_in) := goodIn_app (goodIn_of _ (by decide +kernel)) ggX9_teamComes_X9_in
set_option maxRecDepth 20000 in
theorem ggX9_freezes_X9_in : GoodIn wsX9_freezes wsX9_in := goodIn_r _ [6] (by decide +kernel) (by decide +kernel)
set_option maxRecDepth 20000 in
theorem gX9_freezes_X9_in : GoodIn wsX9_freezes (va_wsS RX9 29 yX9_in wsX9_in) := goodIn_app (goodIn_of _ (by decide +kernel)) ggX9_freezes_X9_in
set_option maxRecDepth 20000 in
theorem ggX9_freezes_X9_frozenFrom : GoodIn wsX9_freezes wsX9_frozenFrom := goodIn_r _ [10, 1, 11, 12, 13, 14, 15, 16, 17, 18, 19, 20, 21, 22, 23] (by decide +kernel) (by decide +kernel)
set_option maxRecDepth 20000 in
theorem gX9_freezes_X9_frozenFrom : GoodIn wsX9_freezes (wsV RX9 53 RX9 yX9_frozenFrom wsX9_frozenFrom) := goodIn_app (goodIn_of _ (by decide +kernel)) ggX9_freezes_X9_frozenFrom
set_option maxRecDepth 20000 in
theorem ggX9_sets_X9_in : GoodIn wsX9_sets wsX9_in := goodIn_r _ [6] (by decide +kernel) (by decide +kernel)
set_option maxRecDepth 20000 in
theorem gX9_sets_X9_in : GoodIn wsX9_sets (va_wsS RX9 29 yX9_in wsX9_in) := goodIn_app (goodIn_of _ (by decide +kernel)) ggX9_sets_X9_in
set_option maxRecDepth 20000 in
theorem ggX9_wasFaulty_X9_told : GoodIn wsX9_wasFaulty wsX9_told := goodIn_r _ [6, 1, 7, 8, 9, 10, 11, 12, 13, 14, 15, 16, 17, 18, 19] (by decide +kernel) (by decide +kernel)
set_option maxRecDepth 20000 in
theorem gX9_wasFaulty_X9_told : GoodIn wsX9_wasFaulty (wsV RX9 56 RX9 yX9_told wsX9_told) := goodIn_app (goodIn_of _ (by decide +kernel)) ggX9_wasFaulty_X9_told
set_option maxRecDepth 20000 in
theorem ggX9_pays_X9_loanOf : GoodIn wsX9_pays wsX9_loanOf := goodIn_r _ [6, 1, 11, 12, 13, 14, 15, 16, 17, 18, 19, 20, 21, 22, 23] (by decide +kernel) (by decide +kernel)
set_option maxRecDepth 20000 in
theorem gX9_pays_X9_loanOf : GoodIn wsX9_pays (wsV RX9 33 RX9 yX9_loanOf wsX9_loanOf) := goodIn_app (goodIn_of _ (by decide +kernel)) ggX9_pays_X9_loanOf
set_option maxRecDepth 20000 in
theorem ggX9_pays_X9_adds : GoodIn wsX9_pays wsX9_adds := goodIn_r _ [10, 1, 11, 12, 13, 14, 15, 16, 17, 18, 19, 20, 21, 22, 23] (by decide +kernel) (by decide +kernel)
set_option maxRecDepth 20000 in
theorem gX9_pays_X9_adds : GoodIn wsX9_pays (wsV RX9 59 RX9 yX9_adds wsX9_adds) := goodIn_app (goodIn_of _ (by decide +kernel)) ggX9_pays_X9_adds
set_option maxRecDepth 20000 in
theorem ggX9_weekEnds_X9_of : GoodIn wsX9_weekEnds wsX9_of := goodIn_r _ [6, 1, 27, 28, 29, 30, 31, 32, 33, 34, 35, 36, 37, 38, 39] (by decide +kernel) (by decide +kernel)
set_option maxRecDepth 20000 in
theorem gX9_weekEnds_X9_of : GoodIn wsX9_weekEnds (wsV RX9 63 RX9 yX9_of wsX9_of) := goodIn_app (goodIn_of _ (by decide +kernel)) ggX9_weekEnds_X9_of
set_option maxRecDepth 20000 in
theorem ggX9_weekEnds_X9_wasFaulty : GoodIn wsX9_weekEnds wsX9_wasFaulty := goodIn_r _ [10, 1, 11, 12, 13, 5, 14, 27, 28, 29, 30, 31, 32, 33, 34, 35, 36, 37, 38, 39] (by decide +kernel) (by decide +kernel)
set_option maxRecDepth 20000 in
theorem gX9_weekEnds_X9_wasFaulty : GoodIn wsX9_weekEnds (wsV RX9 66 RX9 yX9_wasFaulty wsX9_wasFaulty) := goodIn_app (goodIn_of _ (by decide +kernel)) ggX9_weekEnds_X9_wasFaulty
set_option maxRecDepth 20000 in
theorem ggX9_weekEnds_X9_adds : GoodIn wsX9_weekEnds wsX9_adds := goodIn_r _ [18, 1, 27, 28, 29, 30, 31, 32, 33, 34, 35, 36, 37, 38, 39] (by decide +kernel) (by decide +kernel)
set_option maxRecDepth 20000 in
theorem gX9_weekEnds_X9_adds : GoodIn wsX9_weekEnds (wsV RX9 59 RX9 yX9_adds wsX9_adds) := goodIn_app (goodIn_of _ (by decide +kernel)) ggX9_weekEnds_X9_adds
set_option maxRecDepth 20000 in
theorem ggX9_weekEnds_X9_loanOf : GoodIn wsX9_weekEnds wsX9_loanOf := goodIn_r _ [22, 1, 27, 28, 29, 30, 31, 32, 33, 34, 35, 36, 37, 38, 39] (by decide +kernel) (by decide +kernel)
set_option maxRecDepth 20000 in
theorem gX9_weekEnds_X9_loanOf : GoodIn wsX9_weekEnds (wsV RX9 33 RX9 yX9_loanOf wsX9_loanOf) := goodIn_app (goodIn_of _ (by decide +kernel)) ggX9_weekEnds_X9_loanOf
set_option maxRecDepth 20000 in
theorem ggX9_weekEnds_X9_pays : GoodIn wsX9_weekEnds wsX9_pays := goodIn_r _ [26, 1, 19, 20, 21, 5, 22, 15, 16, 17, 18, 27, 28, 29, 30, 31, 32, 33, 34, 35, 36, 37, 38, 39] (by decide +kernel) (by decide +kernel)
set_option maxRecDepth 20000 in
theorem gX9_weekEnds_X9_pays : GoodIn wsX9_weekEnds (wsV RX9 70 RX9 yX9_pays wsX9_pays) := goodIn_app (goodIn_of _ (by decide +kernel)) ggX9_weekEnds_X9_pays
set_option maxRecDepth 20000 in
theorem ggX9_endsOne_X9_weekEnds : GoodIn wsX9_endsOne wsX9_weekEnds := goodIn_r _ [7, 1, 8, 9, 10, 6, 11, 12, 13, 14, 15, 16, 17, 18, 19, 20, 21, 22, 23, 24, 25, 26, 27, 28, 29, 30, 31, 32, 33, 34, 35, 36, 37, 38, 39, 40, 41, 42, 43, 44] (by decide +kernel) (by decide +kernel)
set_option maxRecDepth 20000 in
theorem gX9_endsOne_X9_weekEnds : GoodIn wsX9_endsOne (wsV RX9 74 RX9 yX9_weekEnds wsX9_weekEnds) := goodIn_app (goodIn_of _ (by decide +kernel)) ggX9_endsOne_X9_weekEnds
set_option maxRecDepth 20000 in
theorem ggX9_asks_X9_isTeam : GoodIn wsX9_asks wsX9_isTeam := goodIn_r _ [7, 1, 8, 9, 6, 10, 15, 16, 17, 18, 19, 20, 21, 22, 23, 24, 25, 26, 27] (by decide +kernel) (by decide +kernel)
set_option maxRecDepth 20000 in
theorem gX9_asks_X9_isTeam : GoodIn wsX9_asks (wsV RX9 78 RX9 yX9_isTeam wsX9_isTeam) := goodIn_app (goodIn_of _ (by decide +kernel)) ggX9_asks_X9_isTeam
set_option maxRecDepth 20000 in
theorem ggX9_asks_X9_in : GoodIn wsX9_asks wsX9_in := goodIn_r _ [10] (by decide +kernel) (by decide +kernel)
set_option maxRecDepth 20000 in
theorem gX9_asks_X9_in : GoodIn wsX9_asks (va_wsS RX9 29 yX9_in wsX9_in) := goodIn_app (goodIn_of _ (by decide +kernel)) ggX9_asks_X9_in
set_option maxRecDepth 20000 in
theorem ggX9_asks_X9_tells : GoodIn wsX9_asks wsX9_tells := goodIn_r _ [14, 1, 15, 16, 17, 18, 19, 20, 21, 22, 23, 24, 25, 26, 27] (by decide +kernel) (by decide +kernel)
set_option maxRecDepth 20000 in
theorem gX9_asks_X9_tells : GoodIn wsX9_asks (wsV RX9 81 RX9 yX9_tells wsX9_tells) := goodIn_app (goodIn_of _ (by decide +kernel)) ggX9_asks_X9_tells
set_option maxRecDepth 20000 in
theorem ggX9_why_X9_told : GoodIn wsX9_why wsX9_told := goodIn_r _ [5, 6, 23, 24, 25, 26, 27, 28, 29, 30, 31, 32, 33, 34, 35] (by decide +kernel) (by decide +kernel)
set_option maxRecDepth 20000 in
theorem gX9_why_X9_told : GoodIn wsX9_why (wsV RX9 56 RX9 yX9_told wsX9_told) := goodIn_app (goodIn_of _ (by decide +kernel)) ggX9_why_X9_told
set_option maxRecDepth 20000 in
theorem ggX9_why_X9_owes : GoodIn wsX9_why wsX9_owes := goodIn_r _ [10, 6, 11, 12, 13, 4, 14, 23, 24, 25, 26, 27, 28, 29, 30, 31, 32, 33, 34, 35] (by decide +kernel) (by decide +kernel)
set_option maxRecDepth 20000 in
theorem gX9_why_X9_owes : GoodIn wsX9_why (wsV RX9 84 RX9 yX9_owes wsX9_owes) := goodIn_app (goodIn_of _ (by decide +kernel)) ggX9_why_X9_owes
set_option maxRecDepth 20000 in
theorem ggX9_why_X9_of : GoodIn wsX9_why wsX9_of := goodIn_r _ [18, 6, 23, 24, 25, 26, 27, 28, 29, 30, 31, 32, 33, 34, 35] (by decide +kernel) (by decide +kernel)
set_option maxRecDepth 20000 in
theorem gX9_why_X9_of : GoodIn wsX9_why (wsV RX9 63 RX9 yX9_of wsX9_of) := goodIn_app (goodIn_of _ (by decide +kernel)) ggX9_why_X9_of
set_option maxRecDepth 20000 in
theorem ggX9_why_X9_price : GoodIn wsX9_why wsX9_price := goodIn_r _ [22, 6, 23, 24, 25, 26, 27, 28, 29, 30, 31, 32, 33, 34, 35] (by decide +kernel) (by decide +kernel)
set_option maxRecDepth 20000 in
theorem gX9_why_X9_price : GoodIn wsX9_why (wsV RX9 87 RX9 yX9_price wsX9_price) := goodIn_app (goodIn_of _ (by decide +kernel)) ggX9_why_X9_price
set_option maxRecDepth 20000 in
theorem ggX9_exempts_X9_isChange : GoodIn wsX9_exempts wsX9_isChange := goodIn_r _ [6, 7, 8, 9, 5, 10, 43, 44, 45, 46, 47, 48, 49, 50, 51, 52, 53, 54, 55] (by decide +kernel) (by decide +kernel)
set_option maxRecDepth 20000 in
theorem gX9_exempts_X9_isChange : GoodIn wsX9_exempts (wsV RX9 90 RX9 yX9_isChange wsX9_isChange) := goodIn_app (goodIn_of _ (by decide +kernel)) ggX9_exempts_X9_isChange
set_option maxRecDepth 20000 in
theorem ggX9_exempts_X9_why : GoodIn wsX9_exempts wsX9_why := goodIn_r _ [14, 15, 16, 17, 5, 18, 7, 19, 20, 21, 22, 23, 24, 25, 26, 27, 28, 29, 30, 31, 32, 33, 34, 43, 44, 45, 46, 47, 48, 49, 50, 51, 52, 53, 54, 55] (by decide +kernel) (by decide +kernel)
set_option maxRecDepth 20000 in
theorem gX9_exempts_X9_why : GoodIn wsX9_exempts (wsV RX9 93 RX9 yX9_why wsX9_why) := goodIn_app (goodIn_of _ (by decide +kernel)) ggX9_exempts_X9_why
set_option maxRecDepth 20000 in
theorem ggX9_exempts_X9_told : GoodIn wsX9_exempts wsX9_told := goodIn_r _ [18, 7, 43, 44, 45, 46, 47, 48, 49, 50, 51, 52, 53, 54, 55] (by decide +kernel) (by decide +kernel)
set_option maxRecDepth 20000 in
theorem gX9_exempts_X9_told : GoodIn wsX9_exempts (wsV RX9 56 RX9 yX9_told wsX9_told) := goodIn_app (goodIn_of _ (by decide +kernel)) ggX9_exempts_X9_told
set_option maxRecDepth 20000 in
theorem ggX9_exempts_X9_price : GoodIn wsX9_exempts wsX9_price := goodIn_r _ [34, 7, 43, 44, 45, 46, 47, 48, 49, 50, 51, 52, 53, 54, 55] (by decide +kernel) (by decide +kernel)
set_option maxRecDepth 20000 in
theorem gX9_exempts_X9_price : GoodIn wsX9_exempts (wsV RX9 87 RX9 yX9_price wsX9_price) := goodIn_app (goodIn_of _ (by decide +kernel)) ggX9_exempts_X9_price
set_option maxRecDepth 20000 in
theorem ggX9_exempts_X9_adds : GoodIn wsX9_exempts wsX9_adds := goodIn_r _ [38, 7, 43, 44, 45, 46, 47, 48, 49, 50, 51, 52, 53, 54, 55] (by decide +kernel) (by decide +kernel)
set_option maxRecDepth 20000 in
theorem gX9_exempts_X9_adds : GoodIn wsX9_exempts (wsV RX9 59 RX9 yX9_adds wsX9_adds) := goodIn_app (goodIn_of _ (by decide +kernel)) ggX9_exempts_X9_adds
set_option maxRecDepth 20000 in
theorem ggX9_exempts_X9_tells : GoodIn wsX9_exempts wsX9_tells := goodIn_r _ [42, 7, 43, 44, 45, 46, 47, 48, 49, 50, 51, 52, 53, 54, 55] (by decide +kernel) (by decide +kernel)
set_option maxRecDepth 20000 in
theorem gX9_exempts_X9_tells : GoodIn wsX9_exempts (wsV RX9 81 RX9 yX9_tells wsX9_tells) := goodIn_app (goodIn_of _ (by decide +kernel)) ggX9_exempts_X9_tells
set_option maxRecDepth 20000 in
theorem ggX9_makes_X9_isChange : GoodIn wsX9_makes wsX9_isChange := goodIn_r _ [7, 2, 8, 9, 6, 10, 31, 32, 33, 34, 35, 36, 37, 38, 39, 40, 41, 42, 43] (by decide +kernel) (by decide +kernel)
set_option maxRecDepth 20000 in
theorem gX9_makes_X9_isChange : GoodIn wsX9_makes (wsV RX9 90 RX9 yX9_isChange wsX9_isChange) := goodIn_app (goodIn_of _ (by decide +kernel)) ggX9_makes_X9_isChange
set_option maxRecDepth 20000 in
theorem ggX9_makes_X9_told : GoodIn wsX9_makes wsX9_told := goodIn_r _ [14, 2, 31, 32, 33, 34, 35, 36, 37, 38, 39, 40, 41, 42, 43] (by decide +kernel) (by decide +kernel)
set_option maxRecDepth 20000 in
theorem gX9_makes_X9_told : GoodIn wsX9_makes (wsV RX9 56 RX9 yX9_told wsX9_told) := goodIn_app (goodIn_of _ (by decide +kernel)) ggX9_makes_X9_told
set_option maxRecDepth 20000 in
theorem ggX9_makes_X9_isFrozen : GoodIn wsX9_makes wsX9_isFrozen := goodIn_r _ [18, 2, 31, 32, 33, 34, 35, 36, 37, 38, 39, 40, 41, 42, 43] (by decide +kernel) (by decide +kernel)
set_option maxRecDepth 20000 in
theorem gX9_makes_X9_isFrozen : GoodIn wsX9_makes (wsV RX9 96 RX9 yX9_isFrozen wsX9_isFrozen) := goodIn_app (goodIn_of _ (by decide +kernel)) ggX9_makes_X9_isFrozen
set_option maxRecDepth 20000 in
theorem ggX9_makes_X9_of : GoodIn wsX9_makes wsX9_of := goodIn_r _ [22, 2, 31, 32, 33, 34, 35, 36, 37, 38, 39, 40, 41, 42, 43] (by decide +kernel) (by decide +kernel)
set_option maxRecDepth 20000 in
theorem gX9_makes_X9_of : GoodIn wsX9_makes (wsV RX9 63 RX9 yX9_of wsX9_of) := goodIn_app (goodIn_of _ (by decide +kernel)) ggX9_makes_X9_of
set_option maxRecDepth 20000 in
theorem ggX9_makes_X9_adds : GoodIn wsX9_makes wsX9_adds := goodIn_r _ [26, 2, 31, 32, 33, 34, 35, 36, 37, 38, 39, 40, 41, 42, 43] (by decide +kernel) (by decide +kernel)
set_option maxRecDepth 20000 in
theorem gX9_makes_X9_adds : GoodIn wsX9_makes (wsV RX9 59 RX9 yX9_adds wsX9_adds) := goodIn_app (goodIn_of _ (by decide +kernel)) ggX9_makes_X9_adds
set_option maxRecDepth 20000 in
theorem ggX9_makes_X9_tells : GoodIn wsX9_makes wsX9_tells := goodIn_r _ [30, 2, 31, 32, 33, 34, 35, 36, 37, 38, 39, 40, 41, 42, 43] (by decide +kernel) (by decide +kernel)
set_option maxRecDepth 20000 in
theorem gX9_makes_X9_tells : GoodIn wsX9_makes (wsV RX9 81 RX9 yX9_tells wsX9_tells) := goodIn_app (goodIn_of _ (by decide +kernel)) ggX9_makes_X9_tells
set_option maxRecDepth 20000 in
theorem ggX9_givesUp_X9_isChange : GoodIn wsX9_givesUp wsX9_isChange := goodIn_r _ [6, 7, 8, 9, 5, 10, 23, 24, 25, 26, 27, 28, 29, 30, 31, 32, 33, 34, 35] (by decide +kernel) (by decide +kernel)
set_option maxRecDepth 20000 in
theorem gX9_givesUp_X9_isChange : GoodIn wsX9_givesUp (wsV RX9 90 RX9 yX9_isChange wsX9_isChange) := goodIn_app (goodIn_of _ (by decide +kernel)) ggX9_givesUp_X9_isChange
set_option maxRecDepth 20000 in
theorem ggX9_givesUp_X9_told : GoodIn wsX9_givesUp wsX9_told := goodIn_r _ [14, 7, 23, 24, 25, 26, 27, 28, 29, 30, 31, 32, 33, 34, 35] (by decide +kernel) (by decide +kernel)
set_option maxRecDepth 20000 in
theorem gX9_givesUp_X9_told : GoodIn wsX9_givesUp (wsV RX9 56 RX9 yX9_told wsX9_told) := goodIn_app (goodIn_of _ (by decide +kernel)) ggX9_givesUp_X9_told
set_option maxRecDepth 20000 in
theorem ggX9_givesUp_X9_adds : GoodIn wsX9_givesUp wsX9_adds := goodIn_r _ [18, 7, 23, 24, 25, 26, 27, 28, 29, 30, 31, 32, 33, 34, 35] (by decide +kernel) (by decide +kernel)
set_option maxRecDepth 20000 in
theorem gX9_givesUp_X9_adds : GoodIn wsX9_givesUp (wsV RX9 59 RX9 yX9_adds wsX9_adds) := goodIn_app (goodIn_of _ (by decide +kernel)) ggX9_givesUp_X9_adds
set_option maxRecDepth 20000 in
theorem ggX9_givesUp_X9_tells : GoodIn wsX9_givesUp wsX9_tells := goodIn_r _ [22, 7, 23, 24, 25, 26, 27, 28, 29, 30, 31, 32, 33, 34, 35] (by decide +kernel) (by decide +kernel)
set_option maxRecDepth 20000 in
theorem gX9_givesUp_X9_tells : GoodIn wsX9_givesUp (wsV RX9 81 RX9 yX9_tells wsX9_tells) := goodIn_app (goodIn_of _ (by decide +kernel)) ggX9_givesUp_X9_tells
set_option maxRecDepth 20000 in
theorem ggX9_lends_X9_isTeam : GoodIn wsX9_lends wsX9_isTeam := goodIn_r _ [7, 1, 8, 9, 6, 10, 27, 28, 29, 30, 31, 32, 33, 34, 35, 36, 37, 38, 39] (by decide +kernel) (by decide +kernel)
set_option maxRecDepth 20000 in
theorem gX9_lends_X9_isTeam : GoodIn wsX9_lends (wsV RX9 78 RX9 yX9_isTeam wsX9_isTeam) := goodIn_app (goodIn_of _ (by decide +kernel)) ggX9_lends_X9_isTeam
set_option maxRecDepth 20000 in
theorem ggX9_lends_X9_in : GoodIn wsX9_lends wsX9_in := goodIn_r _ [10] (by decide +kernel) (by decide +kernel)
set_option maxRecDepth 20000 in
theorem gX9_lends_X9_in : GoodIn wsX9_lends (va_wsS RX9 29 yX9_in wsX9_in) := goodIn_app (goodIn_of _ (by decide +kernel)) ggX9_lends_X9_in
set_option maxRecDepth 20000 in
theorem ggX9_lends_X9_of : GoodIn wsX9_lends wsX9_of := goodIn_r _ [14, 1, 27, 28, 29, 30, 31, 32, 33, 34, 35, 36, 37, 38, 39] (by decide +kernel) (by decide +kernel)
set_option maxRecDepth 20000 in
theorem gX9_lends_X9_of : GoodIn wsX9_lends (wsV RX9 63 RX9 yX9_of wsX9_of) := goodIn_app (goodIn_of _ (by decide +kernel)) ggX9_lends_X9_of
set_option maxRecDepth 20000 in
theorem ggX9_lends_X9_owes : GoodIn wsX9_lends wsX9_owes := goodIn_r _ [18, 1, 19, 20, 21, 6, 22, 27, 28, 29, 30, 31, 32, 33, 34, 35, 36, 37, 38, 39] (by decide +kernel) (by decide +kernel)
set_option maxRecDepth 20000 in
theorem gX9_lends_X9_owes : GoodIn wsX9_lends (wsV RX9 84 RX9 yX9_owes wsX9_owes) := goodIn_app (goodIn_of _ (by decide +kernel)) ggX9_lends_X9_owes
set_option maxRecDepth 20000 in
theorem ggX9_lends_X9_adds : GoodIn wsX9_lends wsX9_adds := goodIn_r _ [26, 1, 27, 28, 29, 30, 31, 32, 33, 34, 35, 36, 37, 38, 39] (by decide +kernel) (by decide +kernel)
set_option maxRecDepth 20000 in
theorem gX9_lends_X9_adds : GoodIn wsX9_lends (wsV RX9 59 RX9 yX9_adds wsX9_adds) := goodIn_app (goodIn_of _ (by decide +kernel)) ggX9_lends_X9_adds
set_option maxRecDepth 20000 in
theorem ggX9_repays_X9_isLoan : GoodIn wsX9_repays wsX9_isLoan := goodIn_r _ [6, 7, 8, 9, 5, 10, 27, 28, 29, 30, 31, 32, 33, 34, 35, 36, 37, 38, 39] (by decide +kernel) (by decide +kernel)
set_option maxRecDepth 20000 in
theorem gX9_repays_X9_isLoan : GoodIn wsX9_repays (wsV RX9 100 RX9 yX9_isLoan wsX9_isLoan) := goodIn_app (goodIn_of _ (by decide +kernel)) ggX9_repays_X9_isLoan
set_option maxRecDepth 20000 in
theorem ggX9_repays_X9_in : GoodIn wsX9_repays wsX9_in := goodIn_r _ [10] (by decide +kernel) (by decide +kernel)
set_option maxRecDepth 20000 in
theorem gX9_repays_X9_in : GoodIn wsX9_repays (va_wsS RX9 29 yX9_in wsX9_in) := goodIn_app (goodIn_of _ (by decide +kernel)) ggX9_repays_X9_in
set_option maxRecDepth 20000 in
theorem ggX9_repays_X9_loanOf : GoodIn wsX9_repays wsX9_loanOf := goodIn_r _ [14, 7, 27, 28, 29, 30, 31, 32, 33, 34, 35, 36, 37, 38, 39] (by decide +kernel) (by decide +kernel)
set_option maxRecDepth 20000 in
theorem gX9_repays_X9_loanOf : GoodIn wsX9_repays (wsV RX9 33 RX9 yX9_loanOf wsX9_loanOf) := goodIn_app (goodIn_of _ (by decide +kernel)) ggX9_repays_X9_loanOf
set_option maxRecDepth 20000 in
theorem ggX9_repays_X9_of : GoodIn wsX9_repays wsX9_of := goodIn_r _ [18, 7, 27, 28, 29, 30, 31, 32, 33, 34, 35, 36, 37, 38, 39] (by decide +kernel) (by decide +kernel)
set_option maxRecDepth 20000 in
theorem gX9_repays_X9_of : GoodIn wsX9_repays (wsV RX9 63 RX9 yX9_of wsX9_of) := goodIn_app (goodIn_of _ (by decide +kernel)) ggX9_repays_X9_of
set_option maxRecDepth 20000 in
theorem ggX9_repays_X9_pays : GoodIn wsX9_repays wsX9_pays := goodIn_r _ [22, 7, 11, 12, 13, 5, 14, 23, 24, 25, 26, 27, 28, 29, 30, 31, 32, 33, 34, 35, 36, 37, 38, 39] (by decide +kernel) (by decide +kernel)
set_option maxRecDepth 20000 in
theorem gX9_repays_X9_pays : GoodIn wsX9_repays (wsV RX9 70 RX9 yX9_pays wsX9_pays) := goodIn_app (goodIn_of _ (by decide +kernel)) ggX9_repays_X9_pays
set_option maxRecDepth 20000 in
theorem ggX9_addTeam_X9_asides : GoodIn wsX9_addTeam wsX9_asides := goodIn_r _ [5, 6, 7, 35, 36, 37, 38, 39, 40, 41, 42, 43, 44, 45, 46, 47] (by decide +kernel) (by decide +kernel)
set_option maxRecDepth 20000 in
theorem gX9_addTeam_X9_asides : GoodIn wsX9_addTeam (wsV RX9 103 RX9 yX9_asides wsX9_asides) := goodIn_app (goodIn_of _ (by decide +kernel)) ggX9_addTeam_X9_asides
set_option maxRecDepth 20000 in
theorem ggX9_addTeam_X9_teamComes : GoodIn wsX9_addTeam wsX9_teamComes := goodIn_r _ [11, 7, 12, 13, 14, 4, 15, 35, 36, 37, 38, 39, 40, 41, 42, 43, 44, 45, 46, 47] (by decide +kernel) (by decide +kernel)
set_option maxRecDepth 20000 in
theorem gX9_addTeam_X9_teamComes : GoodIn wsX9_addTeam (wsV RX9 106 RX9 yX9_teamComes wsX9_teamComes) := goodIn_app (goodIn_of _ (by decide +kernel)) ggX9_addTeam_X9_teamComes
set_option maxRecDepth 20000 in
theorem ggX9_addTeam_X9_ends : GoodIn wsX9_addTeam wsX9_ends := goodIn_r _ [19, 12, 20, 21, 22, 4, 23, 24, 25, 26, 27, 28, 29, 30, 6, 31, 32, 33, 34, 35, 36, 37, 38, 39, 40, 41, 42, 43, 44, 45, 46, 47] (by decide +kernel) (by decide +kernel)
set_option maxRecDepth 20000 in
theorem gX9_addTeam_X9_ends : GoodIn wsX9_addTeam (wsV RX9 109 RX9 yX9_ends wsX9_ends) := goodIn_app (goodIn_of _ (by decide +kernel)) ggX9_addTeam_X9_ends
set_option maxRecDepth 20000 in
theorem ggX9_freeze_X9_asides : GoodIn wsX9_freeze wsX9_asides := goodIn_r _ [5, 6, 7, 39, 40, 41, 42, 43, 44, 45, 46, 47, 48, 49, 50, 51] (by decide +kernel) (by decide +kernel)
set_option maxRecDepth 20000 in
theorem gX9_freeze_X9_asides : GoodIn wsX9_freeze (wsV RX9 103 RX9 yX9_asides wsX9_asides) := goodIn_app (goodIn_of _ (by decide +kernel)) ggX9_freeze_X9_asides
set_option maxRecDepth 20000 in
theorem ggX9_freeze_X9_freezes : GoodIn wsX9_freeze wsX9_freezes := goodIn_r _ [11, 7, 12, 13, 14, 4, 15, 16, 17, 18, 19, 39, 40, 41, 42, 43, 44, 45, 46, 47, 48, 49, 50, 51] (by decide +kernel) (by decide +kernel)
set_option maxRecDepth 20000 in
theorem gX9_freeze_X9_freezes : GoodIn wsX9_freeze (wsV RX9 112 RX9 yX9_freezes wsX9_freezes) := goodIn_app (goodIn_of _ (by decide +kernel)) ggX9_freeze_X9_freezes
set_option maxRecDepth 20000 in
theorem ggX9_freeze_X9_ends : GoodIn wsX9_freeze wsX9_ends := goodIn_r _ [23, 12, 24, 25, 26, 4, 27, 28, 29, 30, 31, 32, 33, 34, 6, 35, 36, 37, 38, 39, 40, 41, 42, 43, 44, 45, 46, 47, 48, 49, 50, 51] (by decide +kernel) (by decide +kernel)
set_option maxRecDepth 20000 in
theorem gX9_freeze_X9_ends : GoodIn wsX9_freeze (wsV RX9 109 RX9 yX9_ends wsX9_ends) := goodIn_app (goodIn_of _ (by decide +kernel)) ggX9_freeze_X9_ends
set_option maxRecDepth 20000 in
theorem ggX9_set_X9_asides : GoodIn wsX9_set wsX9_asides := goodIn_r _ [5, 6, 7, 35, 36, 37, 38, 39, 40, 41, 42, 43, 44, 45, 46, 47] (by decide +kernel) (by decide +kernel)
set_option maxRecDepth 20000 in
theorem gX9_set_X9_asides : GoodIn wsX9_set (wsV RX9 103 RX9 yX9_asides wsX9_asides) := goodIn_app (goodIn_of _ (by decide +kernel)) ggX9_set_X9_asides
set_option maxRecDepth 20000 in
theorem ggX9_set_X9_sets : GoodIn wsX9_set wsX9_sets := goodIn_r _ [11, 7, 12, 13, 14, 4, 15, 35, 36, 37, 38, 39, 40, 41, 42, 43, 44, 45, 46, 47] (by decide +kernel) (by decide +kernel)
set_option maxRecDepth 20000 in
theorem gX9_set_X9_sets : GoodIn wsX9_set (wsV RX9 116 RX9 yX9_sets wsX9_sets) := goodIn_app (goodIn_of _ (by decide +kernel)) ggX9_set_X9_sets
set_option maxRecDepth 20000 in
theorem ggX9_set_X9_ends : GoodIn wsX9_set wsX9_ends := goodIn_r _ [19, 12, 20, 21, 22, 4, 23, 24, 25, 26, 27, 28, 29, 30, 6, 31, 32, 33, 34, 35, 36, 37, 38, 39, 40, 41, 42, 43, 44, 45, 46, 47] (by decide +kernel) (by decide +kernel)
set_option maxRecDepth 20000 in
theorem gX9_set_X9_ends : GoodIn wsX9_set (wsV RX9 109 RX9 yX9_ends wsX9_ends) := goodIn_app (goodIn_of _ (by decide +kernel)) ggX9_set_X9_ends
set_option maxRecDepth 20000 in
theorem ggX9_endWeek_X9_asides : GoodIn wsX9_endWeek wsX9_asides := goodIn_r _ [5, 6, 7, 60, 61, 62, 63, 64, 65, 66, 67, 68, 69, 70, 71, 72] (by decide +kernel) (by decide +kernel)
set_option maxRecDepth 20000 in
theorem gX9_endWeek_X9_asides : GoodIn wsX9_endWeek (wsV RX9 103 RX9 yX9_asides wsX9_asides) := goodIn_app (goodIn_of _ (by decide +kernel)) ggX9_endWeek_X9_asides
set_option maxRecDepth 20000 in
theorem ggX9_endWeek_X9_endsOne : GoodIn wsX9_endWeek wsX9_endsOne := goodIn_r _ [11, 7, 12, 13, 14, 15, 4, 16, 17, 18, 19, 20, 21, 22, 23, 24, 25, 26, 27, 28, 29, 30, 31, 32, 33, 34, 35, 36, 37, 38, 39, 40, 60, 61, 62, 63, 64, 65, 66, 67, 68, 69, 70, 71, 72] (by decide +kernel) (by decide +kernel)
set_option maxRecDepth 20000 in
theorem gX9_endWeek_X9_endsOne : GoodIn wsX9_endWeek (wsV RX9 119 RX9 yX9_endsOne wsX9_endsOne) := goodIn_app (goodIn_of _ (by decide +kernel)) ggX9_endWeek_X9_endsOne
set_option maxRecDepth 20000 in
theorem ggX9_endWeek_X9_ends : GoodIn wsX9_endWeek wsX9_ends := goodIn_r _ [44, 12, 45, 46, 47, 4, 48, 49, 50, 51, 52, 53, 54, 55, 6, 56, 57, 58, 59, 60, 61, 62, 63, 64, 65, 66, 67, 68, 69, 70, 71, 72] (by decide +kernel) (by decide +kernel)
set_option maxRecDepth 20000 in
theorem gX9_endWeek_X9_ends : GoodIn wsX9_endWeek (wsV RX9 109 RX9 yX9_ends wsX9_ends) := goodIn_app (goodIn_of _ (by decide +kernel)) ggX9_endWeek_X9_ends
set_option maxRecDepth 20000 in
theorem ggX9_ask_X9_asides : GoodIn wsX9_ask wsX9_asides := goodIn_r _ [5, 6, 7, 43, 44, 45, 46, 47, 48, 49, 50, 51, 52, 53, 54, 55] (by decide +kernel) (by decide +kernel)
set_option maxRecDepth 20000 in
theorem gX9_ask_X9_asides : GoodIn wsX9_ask (wsV RX9 103 RX9 yX9_asides wsX9_asides) := goodIn_app (goodIn_of _ (by decide +kernel)) ggX9_ask_X9_asides
set_option maxRecDepth 20000 in
theorem ggX9_ask_X9_asks : GoodIn wsX9_ask wsX9_asks := goodIn_r _ [11, 7, 12, 13, 14, 15, 4, 16, 17, 18, 19, 20, 21, 22, 23, 43, 44, 45, 46, 47, 48, 49, 50, 51, 52, 53, 54, 55] (by decide +kernel) (by decide +kernel)
set_option maxRecDepth 20000 in
theorem gX9_ask_X9_asks : GoodIn wsX9_ask (wsV RX9 122 RX9 yX9_asks wsX9_asks) := goodIn_app (goodIn_of _ (by decide +kernel)) ggX9_ask_X9_asks
set_option maxRecDepth 20000 in
theorem ggX9_ask_X9_ends : GoodIn wsX9_ask wsX9_ends := goodIn_r _ [27, 12, 28, 29, 30, 4, 31, 32, 33, 34, 35, 36, 37, 38, 6, 39, 40, 41, 42, 43, 44, 45, 46, 47, 48, 49, 50, 51, 52, 53, 54, 55] (by decide +kernel) (by decide +kernel)
set_option maxRecDepth 20000 in
theorem gX9_ask_X9_ends : GoodIn wsX9_ask (wsV RX9 109 RX9 yX9_ends wsX9_ends) := goodIn_app (goodIn_of _ (by decide +kernel)) ggX9_ask_X9_ends
set_option maxRecDepth 20000 in
theorem ggX9_exempt_X9_asides : GoodIn wsX9_exempt wsX9_asides := goodIn_r _ [5, 6, 7, 71, 72, 73, 74, 75, 76, 77, 78, 79, 80, 81, 82, 83] (by decide +kernel) (by decide +kernel)
set_option maxRecDepth 20000 in
theorem gX9_exempt_X9_asides : GoodIn wsX9_exempt (wsV RX9 103 RX9 yX9_asides wsX9_asides) := goodIn_app (goodIn_of _ (by decide +kernel)) ggX9_exempt_X9_asides
set_option maxRecDepth 20000 in
theorem ggX9_exempt_X9_exempts : GoodIn wsX9_exempt wsX9_exempts := goodIn_r _ [11, 12, 13, 14, 15, 4, 16, 7, 17, 18, 19, 20, 21, 22, 23, 24, 25, 26, 27, 28, 29, 30, 31, 32, 33, 34, 35, 36, 37, 38, 39, 40, 41, 42, 43, 44, 45, 46, 47, 48, 49, 50, 51, 71, 72, 73, 74, 75, 76, 77, 78, 79, 80, 81, 82, 83] (by decide +kernel) (by decide +kernel)
set_option maxRecDepth 20000 in
theorem gX9_exempt_X9_exempts : GoodIn wsX9_exempt (wsV RX9 125 RX9 yX9_exempts wsX9_exempts) := goodIn_app (goodIn_of _ (by decide +kernel)) ggX9_exempt_X9_exempts
set_option maxRecDepth 20000 in
theorem ggX9_exempt_X9_ends : GoodIn wsX9_exempt wsX9_ends := goodIn_r _ [55, 12, 56, 57, 58, 4, 59, 60, 61, 62, 63, 64, 65, 66, 6, 67, 68, 69, 70, 71, 72, 73, 74, 75, 76, 77, 78, 79, 80, 81, 82, 83] (by decide +kernel) (by decide +kernel)
set_option maxRecDepth 20000 in
theorem gX9_exempt_X9_ends : GoodIn wsX9_exempt (wsV RX9 109 RX9 yX9_ends wsX9_ends) := goodIn_app (goodIn_of _ (by decide +kernel)) ggX9_exempt_X9_ends
set_option maxRecDepth 20000 in
theorem ggX9_make_X9_asides : GoodIn wsX9_make wsX9_asides := goodIn_r _ [5, 6, 7, 59, 60, 61, 62, 63, 64, 65, 66, 67, 68, 69, 70, 71] (by decide +kernel) (by decide +kernel)
set_option maxRecDepth 20000 in
theorem gX9_make_X9_asides : GoodIn wsX9_make (wsV RX9 103 RX9 yX9_asides wsX9_asides) := goodIn_app (goodIn_of _ (by decide +kernel)) ggX9_make_X9_asides
set_option maxRecDepth 20000 in
theorem ggX9_make_X9_makes : GoodIn wsX9_make wsX9_makes := goodIn_r _ [11, 12, 7, 13, 14, 15, 4, 16, 17, 18, 19, 20, 21, 22, 23, 24, 25, 26, 27, 28, 29, 30, 31, 32, 33, 34, 35, 36, 37, 38, 39, 59, 60, 61, 62, 63, 64, 65, 66, 67, 68, 69, 70, 71] (by decide +kernel) (by decide +kernel)
set_option maxRecDepth 20000 in
theorem gX9_make_X9_makes : GoodIn wsX9_make (wsV RX9 128 RX9 yX9_makes wsX9_makes) := goodIn_app (goodIn_of _ (by decide +kernel)) ggX9_make_X9_makes
set_option maxRecDepth 20000 in
theorem ggX9_make_X9_ends : GoodIn wsX9_make wsX9_ends := goodIn_r _ [43, 12, 44, 45, 46, 4, 47, 48, 49, 50, 51, 52, 53, 54, 6, 55, 56, 57, 58, 59, 60, 61, 62, 63, 64, 65, 66, 67, 68, 69, 70, 71] (by decide +kernel) (by decide +kernel)
set_option maxRecDepth 20000 in
theorem gX9_make_X9_ends : GoodIn wsX9_make (wsV RX9 109 RX9 yX9_ends wsX9_ends) := goodIn_app (goodIn_of _ (by decide +kernel)) ggX9_make_X9_ends
set_option maxRecDepth 20000 in
theorem ggX9_giveUp_X9_asides : GoodIn wsX9_giveUp wsX9_asides := goodIn_r _ [5, 6, 7, 51, 52, 53, 54, 55, 56, 57, 58, 59, 60, 61, 62, 63] (by decide +kernel) (by decide +kernel)
set_option maxRecDepth 20000 in
theorem gX9_giveUp_X9_asides : GoodIn wsX9_giveUp (wsV RX9 103 RX9 yX9_asides wsX9_asides) := goodIn_app (goodIn_of _ (by decide +kernel)) ggX9_giveUp_X9_asides
set_option maxRecDepth 20000 in
theorem ggX9_giveUp_X9_givesUp : GoodIn wsX9_giveUp wsX9_givesUp := goodIn_r _ [11, 12, 13, 14, 15, 4, 16, 7, 17, 18, 19, 20, 21, 22, 23, 24, 25, 26, 27, 28, 29, 30, 31, 51, 52, 53, 54, 55, 56, 57, 58, 59, 60, 61, 62, 63] (by decide +kernel) (by decide +kernel)
set_option maxRecDepth 20000 in
theorem gX9_giveUp_X9_givesUp : GoodIn wsX9_giveUp (wsV RX9 132 RX9 yX9_givesUp wsX9_givesUp) := goodIn_app (goodIn_of _ (by decide +kernel)) ggX9_giveUp_X9_givesUp
set_option maxRecDepth 20000 in
theorem ggX9_giveUp_X9_ends : GoodIn wsX9_giveUp wsX9_ends := goodIn_r _ [35, 12, 36, 37, 38, 4, 39, 40, 41, 42, 43, 44, 45, 46, 6, 47, 48, 49, 50, 51, 52, 53, 54, 55, 56, 57, 58, 59, 60, 61, 62, 63] (by decide +kernel) (by decide +kernel)
set_option maxRecDepth 20000 in
theorem gX9_giveUp_X9_ends : GoodIn wsX9_giveUp (wsV RX9 109 RX9 yX9_ends wsX9_ends) := goodIn_app (goodIn_of _ (by decide +kernel)) ggX9_giveUp_X9_ends
set_option maxRecDepth 20000 in
theorem ggX9_lend_X9_asides : GoodIn wsX9_lend wsX9_asides := goodIn_r _ [5, 6, 7, 55, 56, 57, 58, 59, 60, 61, 62, 63, 64, 65, 66, 67] (by decide +kernel) (by decide +kernel)
set_option maxRecDepth 20000 in
theorem gX9_lend_X9_asides : GoodIn wsX9_lend (wsV RX9 103 RX9 yX9_asides wsX9_asides) := goodIn_app (goodIn_of _ (by decide +kernel)) ggX9_lend_X9_asides
set_option maxRecDepth 20000 in
theorem ggX9_lend_X9_lends : GoodIn wsX9_lend wsX9_lends := goodIn_r _ [11, 7, 12, 13, 14, 15, 4, 16, 17, 18, 19, 20, 21, 22, 23, 24, 25, 26, 27, 28, 29, 30, 31, 32, 33, 34, 35, 55, 56, 57, 58, 59, 60, 61, 62, 63, 64, 65, 66, 67] (by decide +kernel) (by decide +kernel)
set_option maxRecDepth 20000 in
theorem gX9_lend_X9_lends : GoodIn wsX9_lend (wsV RX9 135 RX9 yX9_lends wsX9_lends) := goodIn_app (goodIn_of _ (by decide +kernel)) ggX9_lend_X9_lends
set_option maxRecDepth 20000 in
theorem ggX9_lend_X9_ends : GoodIn wsX9_lend wsX9_ends := goodIn_r _ [39, 12, 40, 41, 42, 4, 43, 44, 45, 46, 47, 48, 49, 50, 6, 51, 52, 53, 54, 55, 56, 57, 58, 59, 60, 61, 62, 63, 64, 65, 66, 67] (by decide +kernel) (by decide +kernel)
set_option maxRecDepth 20000 in
theorem gX9_lend_X9_ends : GoodIn wsX9_lend (wsV RX9 109 RX9 yX9_ends wsX9_ends) := goodIn_app (goodIn_of _ (by decide +kernel)) ggX9_lend_X9_ends
set_option maxRecDepth 20000 in
theorem ggX9_repay_X9_asides : GoodIn wsX9_repay wsX9_asides := goodIn_r _ [5, 6, 7, 55, 56, 57, 58, 59, 60, 61, 62, 63, 64, 65, 66, 67] (by decide +kernel) (by decide +kernel)
set_option maxRecDepth 20000 in
theorem gX9_repay_X9_asides : GoodIn wsX9_repay (wsV RX9 103 RX9 yX9_asides wsX9_asides) := goodIn_app (goodIn_of _ (by decide +kernel)) ggX9_repay_X9_asides
set_option maxRecDepth 20000 in
theorem ggX9_repay_X9_repays : GoodIn wsX9_repay wsX9_repays := goodIn_r _ [11, 12, 13, 14, 15, 4, 16, 7, 17, 18, 19, 20, 21, 22, 23, 24, 25, 26, 27, 28, 29, 30, 31, 32, 33, 34, 35, 55, 56, 57, 58, 59, 60, 61, 62, 63, 64, 65, 66, 67] (by decide +kernel) (by decide +kernel)
set_option maxRecDepth 20000 in
theorem gX9_repay_X9_repays : GoodIn wsX9_repay (wsV RX9 139 RX9 yX9_repays wsX9_repays) := goodIn_app (goodIn_of _ (by decide +kernel)) ggX9_repay_X9_repays
set_option maxRecDepth 20000 in
theorem ggX9_repay_X9_ends : GoodIn wsX9_repay wsX9_ends := goodIn_r _ [39, 12, 40, 41, 42, 4, 43, 44, 45, 46, 47, 48, 49, 50, 6, 51, 52, 53, 54, 55, 56, 57, 58, 59, 60, 61, 62, 63, 64, 65, 66, 67] (by decide +kernel) (by decide +kernel)
set_option maxRecDepth 20000 in
theorem gX9_repay_X9_ends : GoodIn wsX9_repay (wsV RX9 109 RX9 yX9_ends wsX9_ends) := goodIn_app (goodIn_of _ (by decide +kernel)) ggX9_repay_X9_ends
set_option maxRecDepth 20000 in
theorem ggX9_inState_X9_told : GoodIn wsX9_inState wsX9_told := goodIn_r _ [6, 1, 7, 8, 9, 10, 11, 12, 13, 14, 15, 16, 17, 18, 19] (by decide +kernel) (by decide +kernel)
set_option maxRecDepth 20000 in
theorem gX9_inState_X9_told : GoodIn wsX9_inState (wsV RX9 56 RX9 yX9_told wsX9_told) := goodIn_app (goodIn_of _ (by decide +kernel)) ggX9_inState_X9_told
set_option maxRecDepth 20000 in
theorem ggX9_held_X9_told : GoodIn wsX9_held wsX9_told := goodIn_r _ [6, 1, 7, 8, 9, 10, 11, 12, 13, 14, 15, 16, 17, 18, 19] (by decide +kernel) (by decide +kernel)
set_option maxRecDepth 20000 in
theorem gX9_held_X9_told : GoodIn wsX9_held (wsV RX9 56 RX9 yX9_told wsX9_told) := goodIn_app (goodIn_of _ (by decide +kernel)) ggX9_held_X9_told
set_option maxRecDepth 20000 in
theorem ggX9_left_X9_loanOf : GoodIn wsX9_left wsX9_loanOf := goodIn_r _ [6, 1, 7, 8, 9, 10, 11, 12, 13, 14, 15, 16, 17, 18, 19] (by decide +kernel) (by decide +kernel)
set_option maxRecDepth 20000 in
theorem gX9_left_X9_loanOf : GoodIn wsX9_left (wsV RX9 33 RX9 yX9_loanOf wsX9_loanOf) := goodIn_app (goodIn_of _ (by decide +kernel)) ggX9_left_X9_loanOf
set_option maxRecDepth 20000 in
theorem ggX9_teamNumber_X9_of : GoodIn wsX9_teamNumber wsX9_of := goodIn_r _ [5, 6, 35, 36, 37, 38, 39, 40, 41, 42, 43, 44, 45, 46, 47] (by decide +kernel) (by decide +kernel)
set_option maxRecDepth 20000 in
theorem gX9_teamNumber_X9_of : GoodIn wsX9_teamNumber (wsV RX9 63 RX9 yX9_of wsX9_of) := goodIn_app (goodIn_of _ (by decide +kernel)) ggX9_teamNumber_X9_of
set_option maxRecDepth 20000 in
theorem ggX9_teamNumber_X9_held : GoodIn wsX9_teamNumber wsX9_held := goodIn_r _ [10, 6, 11, 12, 13, 4, 14, 35, 36, 37, 38, 39, 40, 41, 42, 43, 44, 45, 46, 47] (by decide +kernel) (by decide +kernel)
set_option maxRecDepth 20000 in
theorem gX9_teamNumber_X9_held : GoodIn wsX9_teamNumber (wsV RX9 142 RX9 yX9_held wsX9_held) := goodIn_app (goodIn_of _ (by decide +kernel)) ggX9_teamNumber_X9_held
set_option maxRecDepth 20000 in
theorem ggX9_teamNumber_X9_inState : GoodIn wsX9_teamNumber wsX9_inState := goodIn_r _ [18, 6, 11, 12, 13, 4, 14, 35, 36, 37, 38, 39, 40, 41, 42, 43, 44, 45, 46, 47] (by decide +kernel) (by decide +kernel)
set_option maxRecDepth 20000 in
theorem gX9_teamNumber_X9_inState : GoodIn wsX9_teamNumber (wsV RX9 145 RX9 yX9_inState wsX9_inState) := goodIn_app (goodIn_of _ (by decide +kernel)) ggX9_teamNumber_X9_inState
set_option maxRecDepth 20000 in
theorem ggX9_teamNumber_X9_left : GoodIn wsX9_teamNumber wsX9_left := goodIn_r _ [22, 6, 23, 24, 25, 4, 26, 35, 36, 37, 38, 39, 40, 41, 42, 43, 44, 45, 46, 47] (by decide +kernel) (by decide +kernel)
set_option maxRecDepth 20000 in
theorem gX9_teamNumber_X9_left : GoodIn wsX9_teamNumber (wsV RX9 148 RX9 yX9_left wsX9_left) := goodIn_app (goodIn_of _ (by decide +kernel)) ggX9_teamNumber_X9_left
set_option maxRecDepth 20000 in
theorem ggX9_teamNumber_X9_owes : GoodIn wsX9_teamNumber wsX9_owes := goodIn_r _ [30, 6, 23, 24, 25, 4, 26, 35, 36, 37, 38, 39, 40, 41, 42, 43, 44, 45, 46, 47] (by decide +kernel) (by decide +kernel)
set_option maxRecDepth 20000 in
theorem gX9_teamNumber_X9_owes : GoodIn wsX9_teamNumber (wsV RX9 84 RX9 yX9_owes wsX9_owes) := goodIn_app (goodIn_of _ (by decide +kernel)) ggX9_teamNumber_X9_owes
set_option maxRecDepth 20000 in
theorem ggX9_teamNumber_X9_wasFaulty : GoodIn wsX9_teamNumber wsX9_wasFaulty := goodIn_r _ [34, 6, 11, 12, 13, 4, 14, 35, 36, 37, 38, 39, 40, 41, 42, 43, 44, 45, 46, 47] (by decide +kernel) (by decide +kernel)
set_option maxRecDepth 20000 in
theorem gX9_teamNumber_X9_wasFaulty : GoodIn wsX9_teamNumber (wsV RX9 66 RX9 yX9_wasFaulty wsX9_wasFaulty) := goodIn_app (goodIn_of _ (by decide +kernel)) ggX9_teamNumber_X9_wasFaulty
set_option maxRecDepth 20000 in
theorem ggX9_team_X9_isTeam : GoodIn wsX9_team wsX9_isTeam := goodIn_r _ [5, 6, 7, 8, 4, 9, 55, 56, 57, 58, 59, 60, 61, 62, 63, 64, 65, 66, 67] (by decide +kernel) (by decide +kernel)
set_option maxRecDepth 20000 in
theorem gX9_team_X9_isTeam : GoodIn wsX9_team (wsV RX9 78 RX9 yX9_isTeam wsX9_isTeam) := goodIn_app (goodIn_of _ (by decide +kernel)) ggX9_team_X9_isTeam
set_option maxRecDepth 20000 in
theorem ggX9_team_X9_fails : GoodIn wsX9_team wsX9_fails := goodIn_r _ [13, 14, 55, 56, 57, 58, 59, 60, 61, 62, 63, 64, 65, 66, 67] (by decide +kernel) (by decide +kernel)
set_option maxRecDepth 20000 in
theorem gX9_team_X9_fails : GoodIn wsX9_team (wsV RX9 40 RX9 yX9_fails wsX9_fails) := goodIn_app (goodIn_of _ (by decide +kernel)) ggX9_team_X9_fails
set_option maxRecDepth 20000 in
theorem ggX9_team_X9_in : GoodIn wsX9_team wsX9_in := goodIn_r _ [9] (by decide +kernel) (by decide +kernel)
set_option maxRecDepth 20000 in
theorem gX9_team_X9_in : GoodIn wsX9_team (va_wsS RX9 29 yX9_in wsX9_in) := goodIn_app (goodIn_of _ (by decide +kernel)) ggX9_team_X9_in
set_option maxRecDepth 20000 in
theorem ggX9_team_X9_teamNumber : GoodIn wsX9_team wsX9_teamNumber := goodIn_r _ [18, 19, 20, 21, 4, 22, 6, 23, 24, 25, 26, 27, 28, 29, 30, 31, 32, 33, 34, 35, 36, 37, 38, 39, 40, 41, 42, 43, 44, 45, 46, 47, 48, 49, 50, 55, 56, 57, 58, 59, 60, 61, 62, 63, 64, 65, 66, 67] (by decide +kernel) (by decide +kernel)
set_option maxRecDepth 20000 in
theorem gX9_team_X9_teamNumber : GoodIn wsX9_team (wsV RX9 151 RX9 yX9_teamNumber wsX9_teamNumber) := goodIn_app (goodIn_of _ (by decide +kernel)) ggX9_team_X9_teamNumber
set_option maxRecDepth 20000 in
theorem ggX9_team_X9_well : GoodIn wsX9_team wsX9_well := goodIn_r _ [54, 14, 55, 56, 57, 58, 59, 60, 61, 62, 63, 64, 65, 66, 67] (by decide +kernel) (by decide +kernel)
set_option maxRecDepth 20000 in
theorem gX9_team_X9_well : GoodIn wsX9_team (wsV RX9 50 RX9 yX9_well wsX9_well) := goodIn_app (goodIn_of _ (by decide +kernel)) ggX9_team_X9_well
set_option maxRecDepth 20000 in
theorem ggX9_change_X9_isChange : GoodIn wsX9_change wsX9_isChange := goodIn_r _ [5, 6, 7, 8, 4, 9, 23, 24, 25, 26, 27, 28, 29, 30, 31, 32, 33, 34, 35] (by decide +kernel) (by decide +kernel)
set_option maxRecDepth 20000 in
theorem gX9_change_X9_isChange : GoodIn wsX9_change (wsV RX9 90 RX9 yX9_isChange wsX9_isChange) := goodIn_app (goodIn_of _ (by decide +kernel)) ggX9_change_X9_isChange
set_option maxRecDepth 20000 in
theorem ggX9_change_X9_fails : GoodIn wsX9_change wsX9_fails := goodIn_r _ [13, 14, 23, 24, 25, 26, 27, 28, 29, 30, 31, 32, 33, 34, 35] (by decide +kernel) (by decide +kernel)
set_option maxRecDepth 20000 in
theorem gX9_change_X9_fails : GoodIn wsX9_change (wsV RX9 40 RX9 yX9_fails wsX9_fails) := goodIn_app (goodIn_of _ (by decide +kernel)) ggX9_change_X9_fails
set_option maxRecDepth 20000 in
theorem ggX9_change_X9_in : GoodIn wsX9_change wsX9_in := goodIn_r _ [9] (by decide +kernel) (by decide +kernel)
set_option maxRecDepth 20000 in
theorem gX9_change_X9_in : GoodIn wsX9_change (va_wsS RX9 29 yX9_in wsX9_in) := goodIn_app (goodIn_of _ (by decide +kernel)) ggX9_change_X9_in
set_option maxRecDepth 20000 in
theorem ggX9_change_X9_told : GoodIn wsX9_change wsX9_told := goodIn_r _ [18, 6, 23, 24, 25, 26, 27, 28, 29, 30, 31, 32, 33, 34, 35] (by decide +kernel) (by decide +kernel)
set_option maxRecDepth 20000 in
theorem gX9_change_X9_told : GoodIn wsX9_change (wsV RX9 56 RX9 yX9_told wsX9_told) := goodIn_app (goodIn_of _ (by decide +kernel)) ggX9_change_X9_told
set_option maxRecDepth 20000 in
theorem ggX9_change_X9_well : GoodIn wsX9_change wsX9_well := goodIn_r _ [22, 14, 23, 24, 25, 26, 27, 28, 29, 30, 31, 32, 33, 34, 35] (by decide +kernel) (by decide +kernel)
set_option maxRecDepth 20000 in
theorem gX9_change_X9_well : GoodIn wsX9_change (wsV RX9 50 RX9 yX9_well wsX9_well) := goodIn_app (goodIn_of _ (by decide +kernel)) ggX9_change_X9_well
set_option maxRecDepth 20000 in
theorem ggX9_loan_X9_isLoan : GoodIn wsX9_loan wsX9_isLoan := goodIn_r _ [5, 6, 7, 8, 4, 9, 23, 24, 25, 26, 27, 28, 29, 30, 31, 32, 33, 34, 35] (by decide +kernel) (by decide +kernel)
set_option maxRecDepth 20000 in
theorem gX9_loan_X9_isLoan : GoodIn wsX9_loan (wsV RX9 100 RX9 yX9_isLoan wsX9_isLoan) := goodIn_app (goodIn_of _ (by decide +kernel)) ggX9_loan_X9_isLoan
set_option maxRecDepth 20000 in
theorem ggX9_loan_X9_fails : GoodIn wsX9_loan wsX9_fails := goodIn_r _ [13, 14, 23, 24, 25, 26, 27, 28, 29, 30, 31, 32, 33, 34, 35] (by decide +kernel) (by decide +kernel)
set_option maxRecDepth 20000 in
theorem gX9_loan_X9_fails : GoodIn wsX9_loan (wsV RX9 40 RX9 yX9_fails wsX9_fails) := goodIn_app (goodIn_of _ (by decide +kernel)) ggX9_loan_X9_fails
set_option maxRecDepth 20000 in
theorem ggX9_loan_X9_in : GoodIn wsX9_loan wsX9_in := goodIn_r _ [9] (by decide +kernel) (by decide +kernel)
set_option maxRecDepth 20000 in
theorem gX9_loan_X9_in : GoodIn wsX9_loan (va_wsS RX9 29 yX9_in wsX9_in) := goodIn_app (goodIn_of _ (by decide +kernel)) ggX9_loan_X9_in
set_option maxRecDepth 20000 in
theorem ggX9_loan_X9_loanOf : GoodIn wsX9_loan wsX9_loanOf := goodIn_r _ [18, 6, 23, 24, 25, 26, 27, 28, 29, 30, 31, 32, 33, 34, 35] (by decide +kernel) (by decide +kernel)
set_option maxRecDepth 20000 in
theorem gX9_loan_X9_loanOf : GoodIn wsX9_loan (wsV RX9 33 RX9 yX9_loanOf wsX9_loanOf) := goodIn_app (goodIn_of _ (by decide +kernel)) ggX9_loan_X9_loanOf
set_option maxRecDepth 20000 in
theorem ggX9_loan_X9_well : GoodIn wsX9_loan wsX9_well := goodIn_r _ [22, 14, 23, 24, 25, 26, 27, 28, 29, 30, 31, 32, 33, 34, 35] (by decide +kernel) (by decide +kernel)
set_option maxRecDepth 20000 in
theorem gX9_loan_X9_well : GoodIn wsX9_loan (wsV RX9 50 RX9 yX9_well wsX9_well) := goodIn_app (goodIn_of _ (by decide +kernel)) ggX9_loan_X9_well
set_option maxRecDepth 20000 in
theorem ggX9_waits_X9_told : GoodIn wsX9_waits wsX9_told := goodIn_r _ [6, 1, 7, 8, 9, 10, 11, 12, 13, 14, 15, 16, 17, 18, 19] (by decide +kernel) (by decide +kernel)
set_option maxRecDepth 20000 in
theorem gX9_waits_X9_told : GoodIn wsX9_waits (wsV RX9 56 RX9 yX9_told wsX9_told) := goodIn_app (goodIn_of _ (by decide +kernel)) ggX9_waits_X9_told
set_option maxRecDepth 20000 in
theorem ggX9_waiting_X9_fails : GoodIn wsX9_waiting wsX9_fails := goodIn_r _ [5, 6, 20, 21, 22, 23, 24, 25, 26, 27, 28, 29, 30, 31, 32] (by decide +kernel) (by decide +kernel)
set_option maxRecDepth 20000 in
theorem gX9_waiting_X9_fails : GoodIn wsX9_waiting (wsV RX9 40 RX9 yX9_fails wsX9_fails) := goodIn_app (goodIn_of _ (by decide +kernel)) ggX9_waiting_X9_fails
set_option maxRecDepth 20000 in
theorem ggX9_waiting_X9_waits : GoodIn wsX9_waiting wsX9_waits := goodIn_r _ [10, 11, 12, 13, 14, 4, 15, 20, 21, 22, 23, 24, 25, 26, 27, 28, 29, 30, 31, 32] (by decide +kernel) (by decide +kernel)
set_option maxRecDepth 20000 in
theorem gX9_waiting_X9_waits : GoodIn wsX9_waiting (wsV RX9 154 RX9 yX9_waits wsX9_waits) := goodIn_app (goodIn_of _ (by decide +kernel)) ggX9_waiting_X9_waits
set_option maxRecDepth 20000 in
theorem ggX9_waiting_X9_well : GoodIn wsX9_waiting wsX9_well := goodIn_r _ [19, 6, 20, 21, 22, 23, 24, 25, 26, 27, 28, 29, 30, 31, 32] (by decide +kernel) (by decide +kernel)
set_option maxRecDepth 20000 in
theorem gX9_waiting_X9_well : GoodIn wsX9_waiting (wsV RX9 50 RX9 yX9_well wsX9_well) := goodIn_app (goodIn_of _ (by decide +kernel)) ggX9_waiting_X9_well
set_option maxRecDepth 20000 in
theorem ggX9_frozen_X9_in : GoodIn wsX9_frozen wsX9_in := goodIn_r _ [5] (by decide +kernel) (by decide +kernel)
set_option maxRecDepth 20000 in
theorem gX9_frozen_X9_in : GoodIn wsX9_frozen (va_wsS RX9 29 yX9_in wsX9_in) := goodIn_app (goodIn_of _ (by decide +kernel)) ggX9_frozen_X9_in
set_option maxRecDepth 20000 in
theorem ggX9_frozen_X9_well : GoodIn wsX9_frozen wsX9_well := goodIn_r _ [9, 10, 15, 16, 17, 18, 19, 20, 21, 22, 23, 24, 25, 26, 27] (by decide +kernel) (by decide +kernel)
set_option maxRecDepth 20000 in
theorem gX9_frozen_X9_well : GoodIn wsX9_frozen (wsV RX9 50 RX9 yX9_well wsX9_well) := goodIn_app (goodIn_of _ (by decide +kernel)) ggX9_frozen_X9_well
set_option maxRecDepth 20000 in
theorem ggX9_frozen_X9_fails : GoodIn wsX9_frozen wsX9_fails := goodIn_r _ [14, 10, 15, 16, 17, 18, 19, 20, 21, 22, 23, 24, 25, 26, 27] (by decide +kernel) (by decide +kernel)
set_option maxRecDepth 20000 in
theorem gX9_frozen_X9_fails : GoodIn wsX9_frozen (wsV RX9 40 RX9 yX9_fails wsX9_fails) := goodIn_app (goodIn_of _ (by decide +kernel)) ggX9_frozen_X9_fails
set_option maxRecDepth 20000 in
theorem ggX9_sum_X9_of : GoodIn wsX9_sum wsX9_of := goodIn_r _ [6, 1, 7, 8, 9, 10, 11, 12, 13, 14, 15, 16, 17, 18, 19] (by decide +kernel) (by decide +kernel)
set_option maxRecDepth 20000 in
theorem gX9_sum_X9_of : GoodIn wsX9_sum (wsV RX9 63 RX9 yX9_of wsX9_of) := goodIn_app (goodIn_of _ (by decide +kernel)) ggX9_sum_X9_of
set_option maxRecDepth 20000 in
theorem ggX9_openLoans_X9_loanOf : GoodIn wsX9_openLoans wsX9_loanOf := goodIn_r _ [6, 1, 7, 8, 9, 10, 11, 12, 13, 14, 15, 16, 17, 18, 19] (by decide +kernel) (by decide +kernel)
set_option maxRecDepth 20000 in
theorem gX9_openLoans_X9_loanOf : GoodIn wsX9_openLoans (wsV RX9 33 RX9 yX9_loanOf wsX9_loanOf) := goodIn_app (goodIn_of _ (by decide +kernel)) ggX9_openLoans_X9_loanOf
set_option maxRecDepth 20000 in
theorem ggX9_owing_X9_owes : GoodIn wsX9_owing wsX9_owes := goodIn_r _ [6, 1, 7, 8, 9, 5, 10, 11, 12, 13, 14, 15, 16, 17, 18, 19, 20, 21, 22, 23] (by decide +kernel) (by decide +kernel)
set_option maxRecDepth 20000 in
theorem gX9_owing_X9_owes : GoodIn wsX9_owing (wsV RX9 84 RX9 yX9_owes wsX9_owes) := goodIn_app (goodIn_of _ (by decide +kernel)) ggX9_owing_X9_owes
set_option maxRecDepth 20000 in
theorem ggX9_number_X9_openLoans : GoodIn wsX9_number wsX9_openLoans := goodIn_r _ [7, 1, 8, 9, 10, 6, 11, 44, 45, 46, 47, 48, 49, 50, 51, 52, 53, 54, 55, 56] (by decide +kernel) (by decide +kernel)
set_option maxRecDepth 20000 in
theorem gX9_number_X9_openLoans : GoodIn wsX9_number (wsV RX9 157 RX9 yX9_openLoans wsX9_openLoans) := goodIn_app (goodIn_of _ (by decide +kernel)) ggX9_number_X9_openLoans
set_option maxRecDepth 20000 in
theorem ggX9_number_X9_frozenFrom : GoodIn wsX9_number wsX9_frozenFrom := goodIn_r _ [15, 1, 44, 45, 46, 47, 48, 49, 50, 51, 52, 53, 54, 55, 56] (by decide +kernel) (by decide +kernel)
set_option maxRecDepth 20000 in
theorem gX9_number_X9_frozenFrom : GoodIn wsX9_number (wsV RX9 53 RX9 yX9_frozenFrom wsX9_frozenFrom) := goodIn_app (goodIn_of _ (by decide +kernel)) ggX9_number_X9_frozenFrom
set_option maxRecDepth 20000 in
theorem ggX9_number_X9_sum : GoodIn wsX9_number wsX9_sum := goodIn_r _ [19, 1, 20, 21, 22, 6, 23, 44, 45, 46, 47, 48, 49, 50, 51, 52, 53, 54, 55, 56] (by decide +kernel) (by decide +kernel)
set_option maxRecDepth 20000 in
theorem gX9_number_X9_sum : GoodIn wsX9_number (wsV RX9 160 RX9 yX9_sum wsX9_sum) := goodIn_app (goodIn_of _ (by decide +kernel)) ggX9_number_X9_sum
set_option maxRecDepth 20000 in
theorem ggX9_number_X9_held : GoodIn wsX9_number wsX9_held := goodIn_r _ [27, 1, 28, 29, 30, 6, 31, 44, 45, 46, 47, 48, 49, 50, 51, 52, 53, 54, 55, 56] (by decide +kernel) (by decide +kernel)
set_option maxRecDepth 20000 in
theorem gX9_number_X9_held : GoodIn wsX9_number (wsV RX9 142 RX9 yX9_held wsX9_held) := goodIn_app (goodIn_of _ (by decide +kernel)) ggX9_number_X9_held
set_option maxRecDepth 20000 in
theorem ggX9_number_X9_inState : GoodIn wsX9_number wsX9_inState := goodIn_r _ [35, 1, 28, 29, 30, 6, 31, 44, 45, 46, 47, 48, 49, 50, 51, 52, 53, 54, 55, 56] (by decide +kernel) (by decide +kernel)
set_option maxRecDepth 20000 in
theorem gX9_number_X9_inState : GoodIn wsX9_number (wsV RX9 145 RX9 yX9_inState wsX9_inState) := goodIn_app (goodIn_of _ (by decide +kernel)) ggX9_number_X9_inState
set_option maxRecDepth 20000 in
theorem ggX9_number_X9_owing : GoodIn wsX9_number wsX9_owing := goodIn_r _ [39, 1, 40, 41, 42, 6, 43, 8, 9, 10, 11, 44, 45, 46, 47, 48, 49, 50, 51, 52, 53, 54, 55, 56] (by decide +kernel) (by decide +kernel)
set_option maxRecDepth 20000 in
theorem gX9_number_X9_owing : GoodIn wsX9_number (wsV RX9 163 RX9 yX9_owing wsX9_owing) := goodIn_app (goodIn_of _ (by decide +kernel)) ggX9_number_X9_owing
set_option maxRecDepth 20000 in
theorem ggX9_whole_X9_in : GoodIn wsX9_whole wsX9_in := goodIn_r _ [4] (by decide +kernel) (by decide +kernel)
set_option maxRecDepth 20000 in
theorem gX9_whole_X9_in : GoodIn wsX9_whole (va_wsS RX9 29 yX9_in wsX9_in) := goodIn_app (goodIn_of _ (by decide +kernel)) ggX9_whole_X9_in
set_option maxRecDepth 20000 in
theorem ggX9_whole_X9_number : GoodIn wsX9_whole wsX9_number := goodIn_r _ [8, 9, 10, 11, 12, 13, 3, 14, 15, 16, 17, 18, 19, 20, 21, 22, 23, 24, 25, 26, 27, 28, 29, 30, 31, 32, 33, 34, 35, 36, 37, 38, 39, 40, 41, 42, 43, 44, 45, 46, 47, 48, 49, 50, 60, 61, 62, 63, 64, 65, 66, 67, 68, 69, 70, 71, 72] (by decide +kernel) (by decide +kernel)
set_option maxRecDepth 20000 in
theorem gX9_whole_X9_number : GoodIn wsX9_whole (wsV RX9 169 RX9 yX9_number wsX9_number) := goodIn_app (goodIn_of _ (by decide +kernel)) ggX9_whole_X9_number
set_option maxRecDepth 20000 in
theorem ggX9_whole_X9_well : GoodIn wsX9_whole wsX9_well := goodIn_r _ [54, 55, 60, 61, 62, 63, 64, 65, 66, 67, 68, 69, 70, 71, 72] (by decide +kernel) (by decide +kernel)
set_option maxRecDepth 20000 in
theorem gX9_whole_X9_well : GoodIn wsX9_whole (wsV RX9 50 RX9 yX9_well wsX9_well) := goodIn_app (goodIn_of _ (by decide +kernel)) ggX9_whole_X9_well
set_option maxRecDepth 20000 in
theorem ggX9_whole_X9_fails : GoodIn wsX9_whole wsX9_fails := goodIn_r _ [59, 55, 60, 61, 62, 63, 64, 65, 66, 67, 68, 69, 70, 71, 72] (by decide +kernel) (by decide +kernel)
set_option maxRecDepth 20000 in
theorem gX9_whole_X9_fails : GoodIn wsX9_whole (wsV RX9 40 RX9 yX9_fails wsX9_fails) := goodIn_app (goodIn_of _ (by decide +kernel)) ggX9_whole_X9_fails
set_option maxRecDepth 20000 in
theorem ggX9_reason_X9_isChange : GoodIn wsX9_reason wsX9_isChange := goodIn_r _ [5, 6, 7, 8, 4, 9, 43, 44, 45, 46, 47, 48, 49, 50, 51, 52, 53, 54, 55] (by decide +kernel) (by decide +kernel)
set_option maxRecDepth 20000 in
theorem gX9_reason_X9_isChange : GoodIn wsX9_reason (wsV RX9 90 RX9 yX9_isChange wsX9_isChange) := goodIn_app (goodIn_of _ (by decide +kernel)) ggX9_reason_X9_isChange
set_option maxRecDepth 20000 in
theorem ggX9_reason_X9_why : GoodIn wsX9_reason wsX9_why := goodIn_r _ [13, 14, 15, 16, 4, 17, 6, 18, 19, 20, 21, 22, 23, 24, 25, 26, 27, 28, 29, 30, 31, 32, 33, 43, 44, 45, 46, 47, 48, 49, 50, 51, 52, 53, 54, 55] (by decide +kernel) (by decide +kernel)
set_option maxRecDepth 20000 in
theorem gX9_reason_X9_why : GoodIn wsX9_reason (wsV RX9 93 RX9 yX9_why wsX9_why) := goodIn_app (goodIn_of _ (by decide +kernel)) ggX9_reason_X9_why
set_option maxRecDepth 20000 in
theorem ggX9_reason_X9_well : GoodIn wsX9_reason wsX9_well := goodIn_r _ [37, 38, 43, 44, 45, 46, 47, 48, 49, 50, 51, 52, 53, 54, 55] (by decide +kernel) (by decide +kernel)
set_option maxRecDepth 20000 in
theorem gX9_reason_X9_well : GoodIn wsX9_reason (wsV RX9 50 RX9 yX9_well wsX9_well) := goodIn_app (goodIn_of _ (by decide +kernel)) ggX9_reason_X9_well
set_option maxRecDepth 20000 in
theorem ggX9_reason_X9_fails : GoodIn wsX9_reason wsX9_fails := goodIn_r _ [42, 38, 43, 44, 45, 46, 47, 48, 49, 50, 51, 52, 53, 54, 55] (by decide +kernel) (by decide +kernel)
set_option maxRecDepth 20000 in
theorem gX9_reason_X9_fails : GoodIn wsX9_reason (wsV RX9 40 RX9 yX9_fails wsX9_fails) := goodIn_app (goodIn_of _ (by decide +kernel)) ggX9_reason_X9_fails
set_option maxRecDepth 20000 in
theorem ggX9_couldExempt_X9_owes : GoodIn wsX9_couldExempt wsX9_owes := goodIn_r _ [5, 6, 7, 8, 9, 4, 10, 27, 28, 29, 30, 31, 32, 33, 34, 35, 36, 37, 38, 39] (by decide +kernel) (by decide +kernel)
set_option maxRecDepth 20000 in
theorem gX9_couldExempt_X9_owes : GoodIn wsX9_couldExempt (wsV RX9 84 RX9 yX9_owes wsX9_owes) := goodIn_app (goodIn_of _ (by decide +kernel)) ggX9_couldExempt_X9_owes
set_option maxRecDepth 20000 in
theorem ggX9_couldExempt_X9_of : GoodIn wsX9_couldExempt wsX9_of := goodIn_r _ [14, 6, 27, 28, 29, 30, 31, 32, 33, 34, 35, 36, 37, 38, 39] (by decide +kernel) (by decide +kernel)
set_option maxRecDepth 20000 in
theorem gX9_couldExempt_X9_of : GoodIn wsX9_couldExempt (wsV RX9 63 RX9 yX9_of wsX9_of) := goodIn_app (goodIn_of _ (by decide +kernel)) ggX9_couldExempt_X9_of
set_option maxRecDepth 20000 in
theorem ggX9_couldExempt_X9_waits : GoodIn wsX9_couldExempt wsX9_waits := goodIn_r _ [18, 6, 19, 20, 21, 4, 22, 27, 28, 29, 30, 31, 32, 33, 34, 35, 36, 37, 38, 39] (by decide +kernel) (by decide +kernel)
set_option maxRecDepth 20000 in
theorem gX9_couldExempt_X9_waits : GoodIn wsX9_couldExempt (wsV RX9 154 RX9 yX9_waits wsX9_waits) := goodIn_app (goodIn_of _ (by decide +kernel)) ggX9_couldExempt_X9_waits
set_option maxRecDepth 20000 in
theorem ggX9_couldExempt_X9_told : GoodIn wsX9_couldExempt wsX9_told := goodIn_r _ [22, 6, 27, 28, 29, 30, 31, 32, 33, 34, 35, 36, 37, 38, 39] (by decide +kernel) (by decide +kernel)
set_option maxRecDepth 20000 in
theorem gX9_couldExempt_X9_told : GoodIn wsX9_couldExempt (wsV RX9 56 RX9 yX9_told wsX9_told) := goodIn_app (goodIn_of _ (by decide +kernel)) ggX9_couldExempt_X9_told
set_option maxRecDepth 20000 in
theorem ggX9_couldExempt_X9_price : GoodIn wsX9_couldExempt wsX9_price := goodIn_r _ [26, 6, 27, 28, 29, 30, 31, 32, 33, 34, 35, 36, 37, 38, 39] (by decide +kernel) (by decide +kernel)
set_option maxRecDepth 20000 in
theorem gX9_couldExempt_X9_price : GoodIn wsX9_couldExempt (wsV RX9 87 RX9 yX9_price wsX9_price) := goodIn_app (goodIn_of _ (by decide +kernel)) ggX9_couldExempt_X9_price
set_option maxRecDepth 20000 in
theorem ggX9_exemptible_X9_isTeam : GoodIn wsX9_exemptible wsX9_isTeam := goodIn_r _ [5, 6, 7, 8, 4, 9, 47, 48, 49, 50, 51, 52, 53, 54, 55, 56, 57, 58, 59] (by decide +kernel) (by decide +kernel)
set_option maxRecDepth 20000 in
theorem gX9_exemptible_X9_isTeam : GoodIn wsX9_exemptible (wsV RX9 78 RX9 yX9_isTeam wsX9_isTeam) := goodIn_app (goodIn_of _ (by decide +kernel)) ggX9_exemptible_X9_isTeam
set_option maxRecDepth 20000 in
theorem ggX9_exemptible_X9_couldExempt : GoodIn wsX9_exemptible wsX9_couldExempt := goodIn_r _ [13, 14, 15, 16, 4, 17, 6, 18, 19, 20, 21, 22, 23, 24, 25, 26, 27, 28, 29, 30, 31, 32, 33, 34, 35, 36, 37, 47, 48, 49, 50, 51, 52, 53, 54, 55, 56, 57, 58, 59] (by decide +kernel) (by decide +kernel)
set_option maxRecDepth 20000 in
theorem gX9_exemptible_X9_couldExempt : GoodIn wsX9_exemptible (wsV RX9 172 RX9 yX9_couldExempt wsX9_couldExempt) := goodIn_app (goodIn_of _ (by decide +kernel)) ggX9_exemptible_X9_couldExempt
set_option maxRecDepth 20000 in
theorem ggX9_exemptible_X9_well : GoodIn wsX9_exemptible wsX9_well := goodIn_r _ [41, 42, 47, 48, 49, 50, 51, 52, 53, 54, 55, 56, 57, 58, 59] (by decide +kernel) (by decide +kernel)
set_option maxRecDepth 20000 in
theorem gX9_exemptible_X9_well : GoodIn wsX9_exemptible (wsV RX9 50 RX9 yX9_well wsX9_well) := goodIn_app (goodIn_of _ (by decide +kernel)) ggX9_exemptible_X9_well
set_option maxRecDepth 20000 in
theorem ggX9_exemptible_X9_fails : GoodIn wsX9_exemptible wsX9_fails := goodIn_r _ [46, 42, 47, 48, 49, 50, 51, 52, 53, 54, 55, 56, 57, 58, 59] (by decide +kernel) (by decide +kernel)
set_option maxRecDepth 20000 in
theorem gX9_exemptible_X9_fails : GoodIn wsX9_exemptible (wsV RX9 40 RX9 yX9_fails wsX9_fails) := goodIn_app (goodIn_of _ (by decide +kernel)) ggX9_exemptible_X9_fails
set_option maxRecDepth 20000 in
theorem ggX9_weeksUntil_X9_isTeam : GoodIn wsX9_weeksUntil wsX9_isTeam := goodIn_r _ [6, 1, 7, 8, 5, 9, 60, 61, 62, 63, 64, 65, 66, 67, 68, 69, 70, 71, 72] (by decide +kernel) (by decide +kernel)
set_option maxRecDepth 20000 in
theorem gX9_weeksUntil_X9_isTeam : GoodIn wsX9_weeksUntil (wsV RX9 78 RX9 yX9_isTeam wsX9_isTeam) := goodIn_app (goodIn_of _ (by decide +kernel)) ggX9_weeksUntil_X9_isTeam
set_option maxRecDepth 20000 in
theorem ggX9_weeksUntil_X9_fails : GoodIn wsX9_weeksUntil wsX9_fails := goodIn_r _ [13, 14, 60, 61, 62, 63, 64, 65, 66, 67, 68, 69, 70, 71, 72] (by decide +kernel) (by decide +kernel)
set_option maxRecDepth 20000 in
theorem gX9_weeksUntil_X9_fails : GoodIn wsX9_weeksUntil (wsV RX9 40 RX9 yX9_fails wsX9_fails) := goodIn_app (goodIn_of _ (by decide +kernel)) ggX9_weeksUntil_X9_fails
set_option maxRecDepth 20000 in
theorem ggX9_weeksUntil_X9_in : GoodIn wsX9_weeksUntil wsX9_in := goodIn_r _ [9] (by decide +kernel) (by decide +kernel)
set_option maxRecDepth 20000 in
theorem gX9_weeksUntil_X9_in : GoodIn wsX9_weeksUntil (va_wsS RX9 29 yX9_in wsX9_in) := goodIn_app (goodIn_of _ (by decide +kernel)) ggX9_weeksUntil_X9_in
set_option maxRecDepth 20000 in
theorem ggX9_weeksUntil_X9_asides : GoodIn wsX9_weeksUntil wsX9_asides := goodIn_r _ [18, 19, 1, 60, 61, 62, 63, 64, 65, 66, 67, 68, 69, 70, 71, 72] (by decide +kernel) (by decide +kernel)
set_option maxRecDepth 20000 in
theorem gX9_weeksUntil_X9_asides : GoodIn wsX9_weeksUntil (wsV RX9 103 RX9 yX9_asides wsX9_asides) := goodIn_app (goodIn_of _ (by decide +kernel)) ggX9_weeksUntil_X9_asides
set_option maxRecDepth 20000 in
theorem ggX9_weeksUntil_X9_of : GoodIn wsX9_weeksUntil wsX9_of := goodIn_r _ [23, 1, 60, 61, 62, 63, 64, 65, 66, 67, 68, 69, 70, 71, 72] (by decide +kernel) (by decide +kernel)
set_option maxRecDepth 20000 in
theorem gX9_weeksUntil_X9_of : GoodIn wsX9_weeksUntil (wsV RX9 63 RX9 yX9_of wsX9_of) := goodIn_app (goodIn_of _ (by decide +kernel)) ggX9_weeksUntil_X9_of
set_option maxRecDepth 20000 in
theorem ggX9_weeksUntil_X9_price : GoodIn wsX9_weeksUntil wsX9_price := goodIn_r _ [27, 1, 60, 61, 62, 63, 64, 65, 66, 67, 68, 69, 70, 71, 72] (by decide +kernel) (by decide +kernel)
set_option maxRecDepth 20000 in
theorem gX9_weeksUntil_X9_price : GoodIn wsX9_weeksUntil (wsV RX9 87 RX9 yX9_price wsX9_price) := goodIn_app (goodIn_of _ (by decide +kernel)) ggX9_weeksUntil_X9_price
set_option maxRecDepth 20000 in
theorem ggX9_weeksUntil_X9_weekEnds : GoodIn wsX9_weeksUntil wsX9_weekEnds := goodIn_r _ [31, 1, 20, 21, 22, 5, 23, 32, 33, 34, 35, 36, 37, 38, 39, 40, 41, 42, 43, 44, 45, 46, 47, 48, 49, 50, 51, 60, 61, 62, 63, 64, 65, 66, 67, 68, 69, 70, 71, 72] (by decide +kernel) (by decide +kernel)
set_option maxRecDepth 20000 in
theorem gX9_weeksUntil_X9_weekEnds : GoodIn wsX9_weeksUntil (wsV RX9 74 RX9 yX9_weekEnds wsX9_weekEnds) := goodIn_app (goodIn_of _ (by decide +kernel)) ggX9_weeksUntil_X9_weekEnds
set_option maxRecDepth 20000 in
theorem ggX9_weeksUntil_X9_backs : GoodIn wsX9_weeksUntil wsX9_backs := goodIn_r _ [55, 1, 19, 60, 61, 62, 63, 64, 65, 66, 67, 68, 69, 70, 71, 72] (by decide +kernel) (by decide +kernel)
set_option maxRecDepth 20000 in
theorem gX9_weeksUntil_X9_backs : GoodIn wsX9_weeksUntil (wsV RX9 175 RX9 yX9_backs wsX9_backs) := goodIn_app (goodIn_of _ (by decide +kernel)) ggX9_weeksUntil_X9_backs
set_option maxRecDepth 20000 in
theorem ggX9_weeksUntil_X9_well : GoodIn wsX9_weeksUntil wsX9_well := goodIn_r _ [59, 14, 60, 61, 62, 63, 64, 65, 66, 67, 68, 69, 70, 71, 72] (by decide +kernel) (by decide +kernel)
set_option maxRecDepth 20000 in
theorem gX9_weeksUntil_X9_well : GoodIn wsX9_weeksUntil (wsV RX9 50 RX9 yX9_well wsX9_well) := goodIn_app (goodIn_of _ (by decide +kernel)) ggX9_weeksUntil_X9_well
set_option maxRecDepth 20000 in
theorem ggX9_helps_X9_of : GoodIn wsX9_helps wsX9_of := goodIn_r _ [6, 1, 7, 8, 9, 10, 11, 12, 13, 14, 15, 16, 17, 18, 19] (by decide +kernel) (by decide +kernel)
set_option maxRecDepth 20000 in
theorem gX9_helps_X9_of : GoodIn wsX9_helps (wsV RX9 63 RX9 yX9_of wsX9_of) := goodIn_app (goodIn_of _ (by decide +kernel)) ggX9_helps_X9_of
set_option maxRecDepth 20000 in
theorem ggX9_lender_X9_isTeam : GoodIn wsX9_lender wsX9_isTeam := goodIn_r _ [5, 6, 7, 8, 4, 9, 39, 40, 41, 42, 43, 44, 45, 46, 47, 48, 49, 50, 51] (by decide +kernel) (by decide +kernel)
set_option maxRecDepth 20000 in
theorem gX9_lender_X9_isTeam : GoodIn wsX9_lender (wsV RX9 78 RX9 yX9_isTeam wsX9_isTeam) := goodIn_app (goodIn_of _ (by decide +kernel)) ggX9_lender_X9_isTeam
set_option maxRecDepth 20000 in
theorem ggX9_lender_X9_fails : GoodIn wsX9_lender wsX9_fails := goodIn_r _ [13, 14, 39, 40, 41, 42, 43, 44, 45, 46, 47, 48, 49, 50, 51] (by decide +kernel) (by decide +kernel)
set_option maxRecDepth 20000 in
theorem gX9_lender_X9_fails : GoodIn wsX9_lender (wsV RX9 40 RX9 yX9_fails wsX9_fails) := goodIn_app (goodIn_of _ (by decide +kernel)) ggX9_lender_X9_fails
set_option maxRecDepth 20000 in
theorem ggX9_lender_X9_in : GoodIn wsX9_lender wsX9_in := goodIn_r _ [9] (by decide +kernel) (by decide +kernel)
set_option maxRecDepth 20000 in
theorem gX9_lender_X9_in : GoodIn wsX9_lender (va_wsS RX9 29 yX9_in wsX9_in) := goodIn_app (goodIn_of _ (by decide +kernel)) ggX9_lender_X9_in
set_option maxRecDepth 20000 in
theorem ggX9_lender_X9_price : GoodIn wsX9_lender wsX9_price := goodIn_r _ [18, 6, 39, 40, 41, 42, 43, 44, 45, 46, 47, 48, 49, 50, 51] (by decide +kernel) (by decide +kernel)
set_option maxRecDepth 20000 in
theorem gX9_lender_X9_price : GoodIn wsX9_lender (wsV RX9 87 RX9 yX9_price wsX9_price) := goodIn_app (goodIn_of _ (by decide +kernel)) ggX9_lender_X9_price
set_option maxRecDepth 20000 in
theorem ggX9_lender_X9_of : GoodIn wsX9_lender wsX9_of := goodIn_r _ [22, 6, 39, 40, 41, 42, 43, 44, 45, 46, 47, 48, 49, 50, 51] (by decide +kernel) (by decide +kernel)
set_option maxRecDepth 20000 in
theorem gX9_lender_X9_of : GoodIn wsX9_lender (wsV RX9 63 RX9 yX9_of wsX9_of) := goodIn_app (goodIn_of _ (by decide +kernel)) ggX9_lender_X9_of
set_option maxRecDepth 20000 in
theorem ggX9_lender_X9_owes : GoodIn wsX9_lender wsX9_owes := goodIn_r _ [26, 6, 27, 28, 29, 4, 30, 39, 40, 41, 42, 43, 44, 45, 46, 47, 48, 49, 50, 51] (by decide +kernel) (by decide +kernel)
set_option maxRecDepth 20000 in
theorem gX9_lender_X9_owes : GoodIn wsX9_lender (wsV RX9 84 RX9 yX9_owes wsX9_owes) := goodIn_app (goodIn_of _ (by decide +kernel)) ggX9_lender_X9_owes
set_option maxRecDepth 20000 in
theorem ggX9_lender_X9_helps : GoodIn wsX9_lender wsX9_helps := goodIn_r _ [34, 6, 19, 20, 21, 4, 22, 39, 40, 41, 42, 43, 44, 45, 46, 47, 48, 49, 50, 51] (by decide +kernel) (by decide +kernel)
set_option maxRecDepth 20000 in
theorem gX9_lender_X9_helps : GoodIn wsX9_lender (wsV RX9 178 RX9 yX9_helps wsX9_helps) := goodIn_app (goodIn_of _ (by decide +kernel)) ggX9_lender_X9_helps
set_option maxRecDepth 20000 in
theorem ggX9_lender_X9_well : GoodIn wsX9_lender wsX9_well := goodIn_r _ [38, 14, 39, 40, 41, 42, 43, 44, 45, 46, 47, 48, 49, 50, 51] (by decide +kernel) (by decide +kernel)
set_option maxRecDepth 20000 in
theorem gX9_lender_X9_well : GoodIn wsX9_lender (wsV RX9 50 RX9 yX9_well wsX9_well) := goodIn_app (goodIn_of _ (by decide +kernel)) ggX9_lender_X9_well
set_option maxRecDepth 20000 in
theorem ggX9_nextThaw_X9_thaw : GoodIn wsX9_nextThaw wsX9_thaw := goodIn_r _ [5, 6, 12, 13, 14, 15, 16, 17, 18, 19, 20, 21, 22, 23, 24] (by decide +kernel) (by decide +kernel)
set_option maxRecDepth 20000 in
theorem gX9_nextThaw_X9_thaw : GoodIn wsX9_nextThaw (wsV RX9 181 RX9 yX9_thaw wsX9_thaw) := goodIn_app (goodIn_of _ (by decide +kernel)) ggX9_nextThaw_X9_thaw
set_option maxRecDepth 20000 in
theorem ggX9_nextThaw_X9_well : GoodIn wsX9_nextThaw wsX9_well := goodIn_r _ [10, 11, 12, 13, 14, 15, 16, 17, 18, 19, 20, 21, 22, 23, 24] (by decide +kernel) (by decide +kernel)
set_option maxRecDepth 20000 in
theorem gX9_nextThaw_X9_well : GoodIn wsX9_nextThaw (wsV RX9 50 RX9 yX9_well wsX9_well) := goodIn_app (goodIn_of _ (by decide +kernel)) ggX9_nextThaw_X9_well
set_option maxRecDepth 20000 in
theorem ggX9_inBeing_X9_in : GoodIn wsX9_inBeing wsX9_in := goodIn_r _ [5] (by decide +kernel) (by decide +kernel)
set_option maxRecDepth 20000 in
theorem gX9_inBeing_X9_in : GoodIn wsX9_inBeing (va_wsS RX9 29 yX9_in wsX9_in) := goodIn_app (goodIn_of _ (by decide +kernel)) ggX9_inBeing_X9_in
set_option maxRecDepth 20000 in
theorem ggX9_inBeing_X9_fails : GoodIn wsX9_inBeing wsX9_fails := goodIn_r _ [9, 10, 60, 61, 62, 63, 64, 65, 66, 67, 68, 69, 70, 71, 72] (by decide +kernel) (by decide +kernel)
set_option maxRecDepth 20000 in
theorem gX9_inBeing_X9_fails : GoodIn wsX9_inBeing (wsV RX9 40 RX9 yX9_fails wsX9_fails) := goodIn_app (goodIn_of _ (by decide +kernel)) ggX9_inBeing_X9_fails
set_option maxRecDepth 20000 in
theorem ggX9_inBeing_X9_well : GoodIn wsX9_inBeing wsX9_well := goodIn_r _ [14, 10, 60, 61, 62, 63, 64, 65, 66, 67, 68, 69, 70, 71, 72] (by decide +kernel) (by decide +kernel)
set_option maxRecDepth 20000 in
theorem gX9_inBeing_X9_well : GoodIn wsX9_inBeing (wsV RX9 50 RX9 yX9_well wsX9_well) := goodIn_app (goodIn_of _ (by decide +kernel)) ggX9_inBeing_X9_well
set_option maxRecDepth 20000 in
theorem ggX9_inBeing_X9_asides : GoodIn wsX9_inBeing wsX9_asides := goodIn_r _ [18, 19, 1, 60, 61, 62, 63, 64, 65, 66, 67, 68, 69, 70, 71, 72] (by decide +kernel) (by decide +kernel)
set_option maxRecDepth 20000 in
theorem gX9_inBeing_X9_asides : GoodIn wsX9_inBeing (wsV RX9 103 RX9 yX9_asides wsX9_asides) := goodIn_app (goodIn_of _ (by decide +kernel)) ggX9_inBeing_X9_asides
set_option maxRecDepth 20000 in
theorem ggX9_inBeing_X9_weekEnds : GoodIn wsX9_inBeing wsX9_weekEnds := goodIn_r _ [23, 1, 24, 25, 26, 4, 27, 28, 29, 30, 31, 32, 33, 34, 35, 36, 37, 38, 39, 40, 41, 42, 43, 44, 45, 46, 47, 60, 61, 62, 63, 64, 65, 66, 67, 68, 69, 70, 71, 72] (by decide +kernel) (by decide +kernel)
set_option maxRecDepth 20000 in
theorem gX9_inBeing_X9_weekEnds : GoodIn wsX9_inBeing (wsV RX9 74 RX9 yX9_weekEnds wsX9_weekEnds) := goodIn_app (goodIn_of _ (by decide +kernel)) ggX9_inBeing_X9_weekEnds
set_option maxRecDepth 20000 in
theorem ggX9_inBeing_X9_sum : GoodIn wsX9_inBeing wsX9_sum := goodIn_r _ [51, 1, 24, 25, 26, 4, 27, 60, 61, 62, 63, 64, 65, 66, 67, 68, 69, 70, 71, 72] (by decide +kernel) (by decide +kernel)
set_option maxRecDepth 20000 in
theorem gX9_inBeing_X9_sum : GoodIn wsX9_inBeing (wsV RX9 160 RX9 yX9_sum wsX9_sum) := goodIn_app (goodIn_of _ (by decide +kernel)) ggX9_inBeing_X9_sum
set_option maxRecDepth 20000 in
theorem ggX9_inBeing_X9_held : GoodIn wsX9_inBeing wsX9_held := goodIn_r _ [55, 1, 32, 33, 34, 4, 35, 60, 61, 62, 63, 64, 65, 66, 67, 68, 69, 70, 71, 72] (by decide +kernel) (by decide +kernel)
set_option maxRecDepth 20000 in
theorem gX9_inBeing_X9_held : GoodIn wsX9_inBeing (wsV RX9 142 RX9 yX9_held wsX9_held) := goodIn_app (goodIn_of _ (by decide +kernel)) ggX9_inBeing_X9_held
set_option maxRecDepth 20000 in
theorem ggX9_inBeing_X9_backs : GoodIn wsX9_inBeing wsX9_backs := goodIn_r _ [59, 1, 19, 60, 61, 62, 63, 64, 65, 66, 67, 68, 69, 70, 71, 72] (by decide +kernel) (by decide +kernel)
set_option maxRecDepth 20000 in
theorem gX9_inBeing_X9_backs : GoodIn wsX9_inBeing (wsV RX9 175 RX9 yX9_backs wsX9_backs) := goodIn_app (goodIn_of _ (by decide +kernel)) ggX9_inBeing_X9_backs
set_option maxRecDepth 20000 in
theorem ggX9_type_X9_in : GoodIn wsX9_type wsX9_in := goodIn_r _ [6] (by decide +kernel) (by decide +kernel)
set_option maxRecDepth 20000 in
theorem gX9_type_X9_in : GoodIn wsX9_type (va_wsS RX9 29 yX9_in wsX9_in) := goodIn_app (goodIn_of _ (by decide +kernel)) ggX9_type_X9_in
set_option maxRecDepth 20000 in
theorem ggX9_type_X9_fails : GoodIn wsX9_type wsX9_fails := goodIn_r _ [10, 11, 16, 17, 18, 19, 20, 21, 22, 23, 24, 25, 26, 27, 28] (by decide +kernel) (by decide +kernel)
set_option maxRecDepth 20000 in
theorem gX9_type_X9_fails : GoodIn wsX9_type (wsV RX9 40 RX9 yX9_fails wsX9_fails) := goodIn_app (goodIn_of _ (by decide +kernel)) ggX9_type_X9_fails
set_option maxRecDepth 20000 in
theorem ggX9_type_X9_well : GoodIn wsX9_type wsX9_well := goodIn_r _ [15, 11, 16, 17, 18, 19, 20, 21, 22, 23, 24, 25, 26, 27, 28] (by decide +kernel) (by decide +kernel)
set_option maxRecDepth 20000 in
theorem gX9_type_X9_well : GoodIn wsX9_type (wsV RX9 50 RX9 yX9_well wsX9_well) := goodIn_app (goodIn_of _ (by decide +kernel)) ggX9_type_X9_well
set_option maxRecDepth 20000 in
theorem ggX9_clearCommands_X9_well : GoodIn wsX9_clearCommands wsX9_well := goodIn_r _ [6, 7, 8, 9, 10, 11, 12, 13, 14, 15, 16, 17, 18, 19, 20] (by decide +kernel) (by decide +kernel)
set_option maxRecDepth 20000 in
theorem gX9_clearCommands_X9_well : GoodIn wsX9_clearCommands (wsV RX9 50 RX9 yX9_well wsX9_well) := goodIn_app (goodIn_of _ (by decide +kernel)) ggX9_clearCommands_X9_well
set_option maxRecDepth 20000 in
theorem ggX9_isLetter_X9_in : GoodIn wsX9_isLetter wsX9_in := goodIn_r _ [4] (by decide +kernel) (by decide +kernel)
set_option maxRecDepth 20000 in
theorem gX9_isLetter_X9_in : GoodIn wsX9_isLetter (va_wsS RX9 29 yX9_in wsX9_in) := goodIn_app (goodIn_of _ (by decide +kernel)) ggX9_isLetter_X9_in
set_option maxRecDepth 20000 in
theorem ggX9_isDigit_X9_in : GoodIn wsX9_isDigit wsX9_in := goodIn_r _ [4] (by decide +kernel) (by decide +kernel)
set_option maxRecDepth 20000 in
theorem gX9_isDigit_X9_in : GoodIn wsX9_isDigit (va_wsS RX9 29 yX9_in wsX9_in) := goodIn_app (goodIn_of _ (by decide +kernel)) ggX9_isDigit_X9_in
set_option maxRecDepth 20000 in
theorem ggX9_spaces_X9_here : GoodIn wsX9_spaces wsX9_here := goodIn_r _ [6, 1, 7, 8, 9, 10, 11, 12, 13, 14, 15, 16, 17, 18, 19, 20, 21] (by decide +kernel) (by decide +kernel)
set_option maxRecDepth 20000 in
theorem gX9_spaces_X9_here : GoodIn wsX9_spaces (wsV RX9 190 RX9 yX9_here wsX9_here) := goodIn_app (goodIn_of _ (by decide +kernel)) ggX9_spaces_X9_here
set_option maxRecDepth 20000 in
theorem ggX9_letters_X9_here : GoodIn wsX9_letters wsX9_here := goodIn_r _ [6, 1, 7, 8, 15, 16, 17, 18, 19, 20, 21, 22, 23, 24, 25, 26, 27] (by decide +kernel) (by decide +kernel)
set_option maxRecDepth 20000 in
theorem gX9_letters_X9_here : GoodIn wsX9_letters (wsV RX9 190 RX9 yX9_here wsX9_here) := goodIn_app (goodIn_of _ (by decide +kernel)) ggX9_letters_X9_here
set_option maxRecDepth 20000 in
theorem ggX9_letters_X9_isLetter : GoodIn wsX9_letters wsX9_isLetter := goodIn_r _ [11, 12, 13, 5, 14] (by decide +kernel) (by decide +kernel)
set_option maxRecDepth 20000 in
theorem gX9_letters_X9_isLetter : GoodIn wsX9_letters (va_wsS RX9 193 yX9_isLetter wsX9_isLetter) := goodIn_app (goodIn_of _ (by decide +kernel)) ggX9_letters_X9_isLetter
set_option maxRecDepth 20000 in
theorem ggX9_wordOf_X9_spelt : GoodIn wsX9_wordOf wsX9_spelt := goodIn_r _ [4] (by decide +kernel) (by decide +kernel)
set_option maxRecDepth 20000 in
theorem gX9_wordOf_X9_spelt : GoodIn wsX9_wordOf (va_wsS RX9 196 yX9_spelt wsX9_spelt) := goodIn_app (goodIn_of _ (by decide +kernel)) ggX9_wordOf_X9_spelt
set_option maxRecDepth 20000 in
theorem ggX9_readNumber_X9_here : GoodIn wsX9_readNumber wsX9_here := goodIn_r _ [7, 1, 8, 9, 25, 26, 27, 28, 29, 30, 31, 32, 33, 34, 35, 36, 37] (by decide +kernel) (by decide +kernel)
set_option maxRecDepth 20000 in
theorem gX9_readNumber_X9_here : GoodIn wsX9_readNumber (wsV RX9 190 RX9 yX9_here wsX9_here) := goodIn_app (goodIn_of _ (by decide +kernel)) ggX9_readNumber_X9_here
set_option maxRecDepth 20000 in
theorem ggX9_readNumber_X9_faults : GoodIn wsX9_readNumber wsX9_faults := goodIn_r _ [13, 14, 1, 25, 26, 27, 28, 29, 30, 31, 32, 33, 34, 35, 36, 37] (by decide +kernel) (by decide +kernel)
set_option maxRecDepth 20000 in
theorem gX9_readNumber_X9_faults : GoodIn wsX9_readNumber (wsV RX9 200 RX9 yX9_faults wsX9_faults) := goodIn_app (goodIn_of _ (by decide +kernel)) ggX9_readNumber_X9_faults
set_option maxRecDepth 20000 in
theorem ggX9_readNumber_X9_spaces : GoodIn wsX9_readNumber wsX9_spaces := goodIn_r _ [18, 1, 3, 4, 5, 6, 7, 8, 9, 25, 26, 27, 28, 29, 30, 31, 32, 33, 34, 35, 36, 37] (by decide +kernel) (by decide +kernel)
set_option maxRecDepth 20000 in
theorem gX9_readNumber_X9_spaces : GoodIn wsX9_readNumber (wsV RX9 203 RX9 yX9_spaces wsX9_spaces) := goodIn_app (goodIn_of _ (by decide +kernel)) ggX9_readNumber_X9_spaces
set_option maxRecDepth 20000 in
theorem ggX9_readNumber_X9_isDigit : GoodIn wsX9_readNumber wsX9_isDigit := goodIn_r _ [21, 22, 23, 6, 24] (by decide +kernel) (by decide +kernel)
set_option maxRecDepth 20000 in
theorem gX9_readNumber_X9_isDigit : GoodIn wsX9_readNumber (va_wsS RX9 206 yX9_isDigit wsX9_isDigit) := goodIn_app (goodIn_of _ (by decide +kernel)) ggX9_readNumber_X9_isDigit
set_option maxRecDepth 20000 in
theorem ggX9_reads_X9_letters : GoodIn wsX9_reads wsX9_letters := goodIn_r _ [8, 1, 9, 10, 11, 7, 12, 13, 14, 15, 16, 17, 18, 19, 20, 46, 47, 48, 49, 50, 51, 52, 53, 54, 55, 56, 57, 58] (by decide +kernel) (by decide +kernel)
set_option maxRecDepth 20000 in
theorem gX9_reads_X9_letters : GoodIn wsX9_reads (wsV RX9 209 RX9 yX9_letters wsX9_letters) := goodIn_app (goodIn_of _ (by decide +kernel)) ggX9_reads_X9_letters
set_option maxRecDepth 20000 in
theorem ggX9_reads_X9_faults : GoodIn wsX9_reads wsX9_faults := goodIn_r _ [24, 3, 1, 46, 47, 48, 49, 50, 51, 52, 53, 54, 55, 56, 57, 58] (by decide +kernel) (by decide +kernel)
set_option maxRecDepth 20000 in
theorem gX9_reads_X9_faults : GoodIn wsX9_reads (wsV RX9 200 RX9 yX9_faults wsX9_faults) := goodIn_app (goodIn_of _ (by decide +kernel)) ggX9_reads_X9_faults
set_option maxRecDepth 20000 in
theorem ggX9_reads_X9_wordOf : GoodIn wsX9_reads wsX9_wordOf := goodIn_r _ [27, 28, 29, 7, 30] (by decide +kernel) (by decide +kernel)
set_option maxRecDepth 20000 in
theorem gX9_reads_X9_wordOf : GoodIn wsX9_reads (va_wsS RX9 213 yX9_wordOf wsX9_wordOf) := goodIn_app (goodIn_of _ (by decide +kernel)) ggX9_reads_X9_wordOf
set_option maxRecDepth 20000 in
theorem ggX9_reads_X9_many : GoodIn wsX9_reads wsX9_many := goodIn_r _ [33] (by decide +kernel) (by decide +kernel)
set_option maxRecDepth 20000 in
theorem gX9_reads_X9_many : GoodIn wsX9_reads (va_wsS RX9 220 yX9_many wsX9_many) := goodIn_app (goodIn_of _ (by decide +kernel)) ggX9_reads_X9_many
set_option maxRecDepth 20000 in
theorem ggX9_reads_X9_readNumber : GoodIn wsX9_reads wsX9_readNumber := goodIn_r _ [37, 1, 38, 9, 10, 11, 7, 12, 13, 14, 21, 22, 23, 24, 3, 39, 40, 41, 42, 43, 44, 45, 18, 19, 20, 46, 47, 48, 49, 50, 51, 52, 53, 54, 55, 56, 57, 58] (by decide +kernel) (by decide +kernel)
set_option maxRecDepth 20000 in
theorem gX9_reads_X9_readNumber : GoodIn wsX9_reads (wsV RX9 223 RX9 yX9_readNumber wsX9_readNumber) := goodIn_app (goodIn_of _ (by decide +kernel)) ggX9_reads_X9_readNumber
set_option maxRecDepth 20000 in
theorem ggX9_reads_X9_spaces : GoodIn wsX9_reads wsX9_spaces := goodIn_r _ [42, 1, 9, 10, 11, 7, 12, 13, 14, 46, 47, 48, 49, 50, 51, 52, 53, 54, 55, 56, 57, 58] (by decide +kernel) (by decide +kernel)
set_option maxRecDepth 20000 in
theorem gX9_reads_X9_spaces : GoodIn wsX9_reads (wsV RX9 203 RX9 yX9_spaces wsX9_spaces) := goodIn_app (goodIn_of _ (by decide +kernel)) ggX9_reads_X9_spaces
set_option maxRecDepth 20000 in
theorem ggX9_reads_X9_here : GoodIn wsX9_reads wsX9_here := goodIn_r _ [12, 1, 13, 14, 46, 47, 48, 49, 50, 51, 52, 53, 54, 55, 56, 57, 58] (by decide +kernel) (by decide +kernel)
set_option maxRecDepth 20000 in
theorem gX9_reads_X9_here : GoodIn wsX9_reads (wsV RX9 190 RX9 yX9_here wsX9_here) := goodIn_app (goodIn_of _ (by decide +kernel)) ggX9_reads_X9_here
set_option maxRecDepth 20000 in
theorem ggX9_faultOf_X9_spaces : GoodIn wsX9_faultOf wsX9_spaces := goodIn_r _ [8, 2, 9, 10, 11, 7, 12, 3, 13, 50, 51, 52, 53, 54, 55, 56, 57, 58, 59, 60, 61, 62] (by decide +kernel) (by decide +kernel)
set_option maxRecDepth 20000 in
theorem gX9_faultOf_X9_spaces : GoodIn wsX9_faultOf (wsV RX9 203 RX9 yX9_spaces wsX9_spaces) := goodIn_app (goodIn_of _ (by decide +kernel)) ggX9_faultOf_X9_spaces
set_option maxRecDepth 20000 in
theorem ggX9_faultOf_X9_reads : GoodIn wsX9_faultOf wsX9_reads := goodIn_r _ [17, 2, 18, 1, 19, 20, 21, 7, 22, 9, 10, 11, 12, 3, 13, 23, 24, 25, 26, 27, 28, 29, 30, 31, 32, 33, 34, 35, 36, 37, 38, 39, 40, 41, 42, 43, 44, 45, 46, 4, 5, 6, 8, 47, 48, 49, 50, 51, 52, 53, 54, 55, 56, 57, 58, 59, 60, 61, 62] (by decide +kernel) (by decide +kernel)
set_option maxRecDepth 20000 in
theorem gX9_faultOf_X9_reads : GoodIn wsX9_faultOf (wsV RX9 227 RX9 yX9_reads wsX9_reads) := goodIn_app (goodIn_of _ (by decide +kernel)) ggX9_faultOf_X9_reads
set_option maxRecDepth 20000 in
theorem ggX9_does_X9_teamComes : GoodIn wsX9_does wsX9_teamComes := goodIn_r _ [7, 8, 9, 10, 11, 6, 12, 113, 114, 115, 116, 117, 118, 119, 120, 121, 122, 123, 124, 125] (by decide +kernel) (by decide +kernel)
set_option maxRecDepth 20000 in
theorem gX9_does_X9_teamComes : GoodIn wsX9_does (wsV RX9 106 RX9 yX9_teamComes wsX9_teamComes) := goodIn_app (goodIn_of _ (by decide +kernel)) ggX9_does_X9_teamComes
set_option maxRecDepth 20000 in
theorem ggX9_does_X9_freezes : GoodIn wsX9_does wsX9_freezes := goodIn_r _ [16, 8, 9, 10, 11, 6, 12, 17, 18, 19, 20, 113, 114, 115, 116, 117, 118, 119, 120, 121, 122, 123, 124, 125] (by decide +kernel) (by decide +kernel)
set_option maxRecDepth 20000 in
theorem gX9_does_X9_freezes : GoodIn wsX9_does (wsV RX9 112 RX9 yX9_freezes wsX9_freezes) := goodIn_app (goodIn_of _ (by decide +kernel)) ggX9_does_X9_freezes
set_option maxRecDepth 20000 in
theorem ggX9_does_X9_asks : GoodIn wsX9_does wsX9_asks := goodIn_r _ [24, 8, 9, 25, 26, 27, 6, 28, 10, 11, 12, 29, 30, 31, 32, 113, 114, 115, 116, 117, 118, 119, 120, 121, 122, 123, 124, 125] (by decide +kernel) (by decide +kernel)
set_option maxRecDepth 20000 in
theorem gX9_does_X9_asks : GoodIn wsX9_does (wsV RX9 122 RX9 yX9_asks wsX9_asks) := goodIn_app (goodIn_of _ (by decide +kernel)) ggX9_does_X9_asks
set_option maxRecDepth 20000 in
theorem ggX9_does_X9_exempts : GoodIn wsX9_does wsX9_exempts := goodIn_r _ [36, 9, 37, 38, 39, 6, 40, 8, 10, 11, 12, 41, 42, 43, 44, 45, 46, 47, 48, 49, 50, 51, 52, 53, 54, 55, 56, 57, 58, 59, 60, 61, 62, 63, 64, 65, 66, 67, 68, 29, 30, 31, 32, 113, 114, 115, 116, 117, 118, 119, 120, 121, 122, 123, 124, 125] (by decide +kernel) (by decide +kernel)
set_option maxRecDepth 20000 in
theorem gX9_does_X9_exempts : GoodIn wsX9_does (wsV RX9 125 RX9 yX9_exempts wsX9_exempts) := goodIn_app (goodIn_of _ (by decide +kernel)) ggX9_does_X9_exempts
set_option maxRecDepth 20000 in
theorem ggX9_does_X9_makes : GoodIn wsX9_does wsX9_makes := goodIn_r _ [72, 9, 8, 37, 38, 39, 6, 40, 10, 11, 12, 45, 46, 47, 48, 73, 74, 75, 76, 57, 58, 59, 60, 65, 66, 67, 68, 29, 30, 31, 32, 113, 114, 115, 116, 117, 118, 119, 120, 121, 122, 123, 124, 125] (by decide +kernel) (by decide +kernel)
set_option maxRecDepth 20000 in
theorem gX9_does_X9_makes : GoodIn wsX9_does (wsV RX9 128 RX9 yX9_makes wsX9_makes) := goodIn_app (goodIn_of _ (by decide +kernel)) ggX9_does_X9_makes
set_option maxRecDepth 20000 in
theorem ggX9_does_X9_givesUp : GoodIn wsX9_does wsX9_givesUp := goodIn_r _ [80, 9, 37, 38, 39, 6, 40, 8, 10, 11, 12, 45, 46, 47, 48, 65, 66, 67, 68, 29, 30, 31, 32, 113, 114, 115, 116, 117, 118, 119, 120, 121, 122, 123, 124, 125] (by decide +kernel) (by decide +kernel)
set_option maxRecDepth 20000 in
theorem gX9_does_X9_givesUp : GoodIn wsX9_does (wsV RX9 132 RX9 yX9_givesUp wsX9_givesUp) := goodIn_app (goodIn_of _ (by decide +kernel)) ggX9_does_X9_givesUp
set_option maxRecDepth 20000 in
theorem ggX9_does_X9_lends : GoodIn wsX9_does wsX9_lends := goodIn_r _ [84, 8, 9, 25, 26, 27, 6, 28, 10, 11, 12, 57, 58, 59, 60, 49, 50, 51, 52, 53, 54, 55, 56, 65, 66, 67, 68, 113, 114, 115, 116, 117, 118, 119, 120, 121, 122, 123, 124, 125] (by decide +kernel) (by decide +kernel)
set_option maxRecDepth 20000 in
theorem gX9_does_X9_lends : GoodIn wsX9_does (wsV RX9 135 RX9 yX9_lends wsX9_lends) := goodIn_app (goodIn_of _ (by decide +kernel)) ggX9_does_X9_lends
set_option maxRecDepth 20000 in
theorem ggX9_does_X9_repays : GoodIn wsX9_does wsX9_repays := goodIn_r _ [88, 9, 89, 90, 91, 6, 92, 8, 10, 11, 12, 53, 54, 55, 56, 57, 58, 59, 60, 93, 94, 95, 96, 65, 66, 67, 68, 113, 114, 115, 116, 117, 118, 119, 120, 121, 122, 123, 124, 125] (by decide +kernel) (by decide +kernel)
set_option maxRecDepth 20000 in
theorem gX9_does_X9_repays : GoodIn wsX9_does (wsV RX9 139 RX9 yX9_repays wsX9_repays) := goodIn_app (goodIn_of _ (by decide +kernel)) ggX9_does_X9_repays
set_option maxRecDepth 20000 in
theorem ggX9_does_X9_sets : GoodIn wsX9_does wsX9_sets := goodIn_r _ [100, 8, 9, 10, 11, 6, 12, 113, 114, 115, 116, 117, 118, 119, 120, 121, 122, 123, 124, 125] (by decide +kernel) (by decide +kernel)
set_option maxRecDepth 20000 in
theorem gX9_does_X9_sets : GoodIn wsX9_does (wsV RX9 116 RX9 yX9_sets wsX9_sets) := goodIn_app (goodIn_of _ (by decide +kernel)) ggX9_does_X9_sets
set_option maxRecDepth 20000 in
theorem ggX9_does_X9_endsOne : GoodIn wsX9_does wsX9_endsOne := goodIn_r _ [104, 8, 9, 105, 106, 107, 6, 108, 57, 58, 59, 60, 109, 110, 111, 112, 45, 46, 47, 48, 65, 66, 67, 68, 53, 54, 55, 56, 93, 94, 95, 96, 113, 114, 115, 116, 117, 118, 119, 120, 121, 122, 123, 124, 125] (by decide +kernel) (by decide +kernel)
set_option maxRecDepth 20000 in
theorem gX9_does_X9_endsOne : GoodIn wsX9_does (wsV RX9 119 RX9 yX9_endsOne wsX9_endsOne) := goodIn_app (goodIn_of _ (by decide +kernel)) ggX9_does_X9_endsOne
set_option maxRecDepth 20000 in
theorem ggX9_runCommands_X9_faultOf : GoodIn wsX9_runCommands wsX9_faultOf := goodIn_r _ [8, 1, 2, 3, 9, 10, 11, 7, 12, 13, 14, 15, 16, 17, 18, 19, 20, 21, 22, 23, 24, 25, 26, 27, 28, 29, 30, 31, 32, 33, 34, 35, 36, 37, 38, 39, 40, 41, 42, 43, 44, 45, 46, 47, 48, 49, 50, 51, 52, 53, 180, 181, 182, 183, 184, 185, 186, 187, 188, 189, 190, 191, 192] (by decide +kernel) (by decide +kernel)
set_option maxRecDepth 20000 in
theorem gX9_runCommands_X9_faultOf : GoodIn wsX9_runCommands (wsV RX9 230 RX9 yX9_faultOf wsX9_faultOf) := goodIn_app (goodIn_of _ (by decide +kernel)) ggX9_runCommands_X9_faultOf
set_option maxRecDepth 20000 in
theorem ggX9_runCommands_X9_well : GoodIn wsX9_runCommands wsX9_well := goodIn_r _ [57, 58, 180, 181, 182, 183, 184, 185, 186, 187, 188, 189, 190, 191, 192] (by decide +kernel) (by decide +kernel)
set_option maxRecDepth 20000 in
theorem gX9_runCommands_X9_well : GoodIn wsX9_runCommands (wsV RX9 50 RX9 yX9_well wsX9_well) := goodIn_app (goodIn_of _ (by decide +kernel)) ggX9_runCommands_X9_well
set_option maxRecDepth 20000 in
theorem ggX9_runCommands_X9_asides : GoodIn wsX9_runCommands wsX9_asides := goodIn_r _ [62, 63, 64, 180, 181, 182, 183, 184, 185, 186, 187, 188, 189, 190, 191, 192] (by decide +kernel) (by decide +kernel)
set_option maxRecDepth 20000 in
theorem gX9_runCommands_X9_asides : GoodIn wsX9_runCommands (wsV RX9 103 RX9 yX9_asides wsX9_asides) := goodIn_app (goodIn_of _ (by decide +kernel)) ggX9_runCommands_X9_asides
set_option maxRecDepth 20000 in
theorem ggX9_runCommands_X9_saves : GoodIn wsX9_runCommands wsX9_saves := goodIn_r _ [68, 69, 70, 63, 180, 181, 182, 183, 184, 185, 186, 187, 188, 189, 190, 191, 192] (by decide +kernel) (by decide +kernel)
set_option maxRecDepth 20000 in
theorem gX9_runCommands_X9_saves : GoodIn wsX9_runCommands (wsV RX9 44 RX9 yX9_saves wsX9_saves) := goodIn_app (goodIn_of _ (by decide +kernel)) ggX9_runCommands_X9_saves
set_option maxRecDepth 20000 in
theorem ggX9_runCommands_X9_spaces : GoodIn wsX9_runCommands wsX9_spaces := goodIn_r _ [12, 2, 13, 14, 15, 7, 16, 3, 17, 180, 181, 182, 183, 184, 185, 186, 187, 188, 189, 190, 191, 192] (by decide +kernel) (by decide +kernel)
set_option maxRecDepth 20000 in
theorem gX9_runCommands_X9_spaces : GoodIn wsX9_runCommands (wsV RX9 203 RX9 yX9_spaces wsX9_spaces) := goodIn_app (goodIn_of _ (by decide +kernel)) ggX9_runCommands_X9_spaces
set_option maxRecDepth 20000 in
theorem ggX9_runCommands_X9_reads : GoodIn wsX9_runCommands wsX9_reads := goodIn_r _ [21, 2, 22, 1, 23, 24, 25, 7, 26, 13, 14, 15, 16, 3, 17, 27, 28, 29, 30, 31, 32, 33, 34, 35, 36, 37, 38, 39, 40, 41, 42, 43, 44, 45, 46, 47, 48, 49, 50, 9, 10, 11, 12, 51, 52, 53, 180, 181, 182, 183, 184, 185, 186, 187, 188, 189, 190, 191, 192] (by decide +kernel) (by decide +kernel)
set_option maxRecDepth 20000 in
theorem gX9_runCommands_X9_reads : GoodIn wsX9_runCommands (wsV RX9 227 RX9 yX9_reads wsX9_reads) := goodIn_app (goodIn_of _ (by decide +kernel)) ggX9_runCommands_X9_reads
set_option maxRecDepth 20000 in
theorem ggX9_runCommands_X9_does : GoodIn wsX9_runCommands wsX9_does := goodIn_r _ [74, 50, 22, 75, 76, 77, 7, 78, 64, 79, 30, 31, 32, 80, 81, 82, 83, 84, 85, 86, 87, 88, 89, 90, 91, 92, 93, 94, 95, 96, 97, 98, 99, 100, 101, 102, 103, 104, 105, 106, 107, 108, 109, 110, 111, 112, 113, 114, 115, 116, 117, 118, 119, 120, 121, 122, 123, 124, 125, 126, 127, 128, 129, 130, 131, 132, 133, 134, 135, 136, 137, 138, 139, 140, 141, 142, 143, 144, 145, 146, 147, 148, 149, 150, 151, 152, 153, 154, 155, 156, 157, 158, 159, 160, 161, 162, 163, 164, 165, 166, 167, 168, 169, 170, 171, 172, 173, 174, 175, 176, 177, 178, 179, 180, 181, 182, 183, 184, 185, 186, 187, 188, 189, 190, 191, 192] (by decide +kernel) (by decide +kernel)
set_option maxRecDepth 20000 in
theorem gX9_runCommands_X9_does : GoodIn wsX9_runCommands (wsV RX9 233 RX9 yX9_does wsX9_does) := goodIn_app (goodIn_of _ (by decide +kernel)) ggX9_runCommands_X9_does
set_option maxRecDepth 20000 in
theorem ggX9_digest_X9_hashes : GoodIn wsX9_digest wsX9_hashes := goodIn_r _ [10, 11, 3, 85, 86, 87, 88, 89, 90, 91, 92, 93, 94, 95, 96, 97] (by decide +kernel) (by decide +kernel)
set_option maxRecDepth 20000 in
theorem gX9_digest_X9_hashes : GoodIn wsX9_digest (wsV RX9 244 RX9 yX9_hashes wsX9_hashes) := goodIn_app (goodIn_of _ (by decide +kernel)) ggX9_digest_X9_hashes
set_option maxRecDepth 20000 in
theorem ggX9_digest_X9_number : GoodIn wsX9_digest wsX9_number := goodIn_r _ [15, 5, 16, 17, 18, 19, 9, 20, 21, 22, 23, 24, 25, 26, 27, 28, 29, 30, 31, 32, 33, 34, 35, 36, 37, 38, 39, 40, 41, 42, 43, 44, 45, 46, 47, 48, 49, 50, 51, 52, 53, 54, 55, 56, 85, 86, 87, 88, 89, 90, 91, 92, 93, 94, 95, 96, 97] (by decide +kernel) (by decide +kernel)
set_option maxRecDepth 20000 in
theorem gX9_digest_X9_number : GoodIn wsX9_digest (wsV RX9 169 RX9 yX9_number wsX9_number) := goodIn_app (goodIn_of _ (by decide +kernel)) ggX9_digest_X9_number
set_option maxRecDepth 20000 in
theorem ggX9_digest_X9_teamNumber : GoodIn wsX9_digest wsX9_teamNumber := goodIn_r _ [60, 33, 34, 35, 9, 36, 5, 37, 38, 39, 40, 41, 42, 43, 44, 45, 46, 47, 48, 61, 62, 63, 64, 21, 22, 23, 24, 53, 54, 55, 56, 65, 66, 67, 68, 85, 86, 87, 88, 89, 90, 91, 92, 93, 94, 95, 96, 97] (by decide +kernel) (by decide +kernel)
set_option maxRecDepth 20000 in
theorem gX9_digest_X9_teamNumber : GoodIn wsX9_digest (wsV RX9 151 RX9 yX9_teamNumber wsX9_teamNumber) := goodIn_app (goodIn_of _ (by decide +kernel)) ggX9_digest_X9_teamNumber
set_option maxRecDepth 20000 in
theorem ggX9_digest_X9_couldExempt : GoodIn wsX9_digest wsX9_couldExempt := goodIn_r _ [72, 53, 54, 55, 9, 56, 5, 21, 22, 23, 24, 33, 34, 35, 36, 73, 74, 75, 76, 41, 42, 43, 44, 77, 78, 79, 80, 85, 86, 87, 88, 89, 90, 91, 92, 93, 94, 95, 96, 97] (by decide +kernel) (by decide +kernel)
set_option maxRecDepth 20000 in
theorem gX9_digest_X9_couldExempt : GoodIn wsX9_digest (wsV RX9 172 RX9 yX9_couldExempt wsX9_couldExempt) := goodIn_app (goodIn_of _ (by decide +kernel)) ggX9_digest_X9_couldExempt
set_option maxRecDepth 20000 in
theorem ggX9_digest_X9_told : GoodIn wsX9_digest wsX9_told := goodIn_r _ [44, 5, 85, 86, 87, 88, 89, 90, 91, 92, 93, 94, 95, 96, 97] (by decide +kernel) (by decide +kernel)
set_option maxRecDepth 20000 in
theorem gX9_digest_X9_told : GoodIn wsX9_digest (wsV RX9 56 RX9 yX9_told wsX9_told) := goodIn_app (goodIn_of _ (by decide +kernel)) ggX9_digest_X9_told
set_option maxRecDepth 20000 in
theorem ggX9_digest_X9_inState : GoodIn wsX9_digest wsX9_inState := goodIn_r _ [48, 5, 41, 42, 43, 9, 44, 85, 86, 87, 88, 89, 90, 91, 92, 93, 94, 95, 96, 97] (by decide +kernel) (by decide +kernel)
set_option maxRecDepth 20000 in
theorem gX9_digest_X9_inState : GoodIn wsX9_digest (wsV RX9 145 RX9 yX9_inState wsX9_inState) := goodIn_app (goodIn_of _ (by decide +kernel)) ggX9_digest_X9_inState
set_option maxRecDepth 20000 in
theorem ggX9_digest_X9_waits : GoodIn wsX9_digest wsX9_waits := goodIn_r _ [76, 5, 41, 42, 43, 9, 44, 85, 86, 87, 88, 89, 90, 91, 92, 93, 94, 95, 96, 97] (by decide +kernel) (by decide +kernel)
set_option maxRecDepth 20000 in
theorem gX9_digest_X9_waits : GoodIn wsX9_digest (wsV RX9 154 RX9 yX9_waits wsX9_waits) := goodIn_app (goodIn_of _ (by decide +kernel)) ggX9_digest_X9_waits
set_option maxRecDepth 20000 in
theorem ggX9_digest_X9_loanOf : GoodIn wsX9_digest wsX9_loanOf := goodIn_r _ [24, 5, 85, 86, 87, 88, 89, 90, 91, 92, 93, 94, 95, 96, 97] (by decide +kernel) (by decide +kernel)
set_option maxRecDepth 20000 in
theorem gX9_digest_X9_loanOf : GoodIn wsX9_digest (wsV RX9 33 RX9 yX9_loanOf wsX9_loanOf) := goodIn_app (goodIn_of _ (by decide +kernel)) ggX9_digest_X9_loanOf
set_option maxRecDepth 20000 in
theorem ggX9_digest_X9_thaw : GoodIn wsX9_digest wsX9_thaw := goodIn_r _ [84, 5, 85, 86, 87, 88, 89, 90, 91, 92, 93, 94, 95, 96, 97] (by decide +kernel) (by decide +kernel)
set_option maxRecDepth 20000 in
theorem gX9_digest_X9_thaw : GoodIn wsX9_digest (wsV RX9 181 RX9 yX9_thaw wsX9_thaw) := goodIn_app (goodIn_of _ (by decide +kernel)) ggX9_digest_X9_thaw
set_option maxRecDepth 20000 in
theorem ggJ0_length_8abf5_J0_coder_7d493 : GoodIn wsJ0_length_8abf5 wsJ0_coder_7d493 := goodIn_r _ [6, 7, 8] (by decide +kernel) (by decide +kernel)
set_option maxRecDepth 20000 in
theorem gJ0_length_8abf5_J0_coder_7d493 : GoodIn wsJ0_length_8abf5 (wsV RJ0 335 RJ0 yJ0_coder_7d493 wsJ0_coder_7d493) := goodIn_app (goodIn_of _ (by decide +kernel)) ggJ0_length_8abf5_J0_coder_7d493
set_option maxRecDepth 20000 in
theorem ggJ0_charAt_5068e_J0_isLatin1_aae02 : GoodIn wsJ0_charAt_5068e wsJ0_isLatin1_aae02 := goodIn_r _ [6, 7, 8] (by decide +kernel) (by decide +kernel)
set_option maxRecDepth 20000 in
theorem gJ0_charAt_5068e_J0_isLatin1_aae02 : GoodIn wsJ0_charAt_5068e (wsV RJ0 492 RJ0 yJ0_isLatin1_aae02 wsJ0_isLatin1_aae02) := goodIn_app (goodIn_of _ (by decide +kernel)) ggJ0_charAt_5068e_J0_isLatin1_aae02
set_option maxRecDepth 20000 in
theorem ggJ0_charAt_5068e_J1_charAt_3b067 : GoodIn wsJ0_charAt_5068e wsJ1_charAt_3b067 := goodIn_r _ [12, 13, 14, 5, 15, 16, 17, 18, 19, 20] (by decide +kernel) (by decide +kernel)
set_option maxRecDepth 20000 in
theorem gJ0_charAt_5068e_J1_charAt_3b067 : GoodIn wsJ0_charAt_5068e (va_wsS RJ0 495 yJ1_charAt_3b067 wsJ1_charAt_3b067) := goodIn_app (goodIn_of _ (by decide +kernel)) ggJ0_charAt_5068e_J1_charAt_3b067
set_option maxRecDepth 20000 in
theorem ggJ0_charAt_5068e_J2_charAt_3b067 : GoodIn wsJ0_charAt_5068e wsJ2_charAt_3b067 := goodIn_r _ [24, 25, 26, 23, 27, 28, 29, 30, 31, 14, 5, 15, 16, 17, 18, 19, 20, 32, 33, 34, 35, 36, 37] (by decide +kernel) (by decide +kernel)
set_option maxRecDepth 20000 in
theorem gJ0_charAt_5068e_J2_charAt_3b067 : GoodIn wsJ0_charAt_5068e (va_wsS RJ0 498 yJ2_charAt_3b067 wsJ2_charAt_3b067) := goodIn_app (goodIn_of _ (by decide +kernel)) ggJ0_charAt_5068e_J2_charAt_3b067
set_option maxRecDepth 20000 in
theorem ggJ0_checkIndex_df160_J3_checkIndex_8e157 : GoodIn wsJ0_checkIndex_df160 wsJ3_checkIndex_8e157 := goodIn_r _ [5] (by decide +kernel) (by decide +kernel)
set_option maxRecDepth 20000 in
theorem gJ0_checkIndex_df160_J3_checkIndex_8e157 : GoodIn wsJ0_checkIndex_df160 (va_wsS RJ0 1059 yJ3_checkIndex_8e157 wsJ3_checkIndex_8e157) := goodIn_app (goodIn_of _ (by decide +kernel)) ggJ0_checkIndex_df160_J3_checkIndex_8e157
set_option maxRecDepth 20000 in
theorem ggJ1_charAt_3b067_J0_checkIndex_df160 : GoodIn wsJ1_charAt_3b067 wsJ0_checkIndex_df160 := goodIn_r _ [4, 5, 6, 7, 8, 9] (by decide +kernel) (by decide +kernel)
set_option maxRecDepth 20000 in
theorem gJ1_charAt_3b067_J0_checkIndex_df160 : GoodIn wsJ1_charAt_3b067 (va_wsS RJ1 9 yJ0_checkIndex_df160 wsJ0_checkIndex_df160) := goodIn_app (goodIn_of _ (by decide +kernel)) ggJ1_charAt_3b067_J0_checkIndex_df160
set_option maxRecDepth 20000 in
theorem ggJ2_getChar_3b067_J2_length_9d52b : GoodIn wsJ2_getChar_3b067 wsJ2_length_9d52b := goodIn_r _ [7] (by decide +kernel) (by decide +kernel)
set_option maxRecDepth 20000 in
theorem gJ2_getChar_3b067_J2_length_9d52b : GoodIn wsJ2_getChar_3b067 (va_wsS RJ2 48 yJ2_length_9d52b wsJ2_length_9d52b) := goodIn_app (goodIn_of _ (by decide +kernel)) ggJ2_getChar_3b067_J2_length_9d52b
set_option maxRecDepth 20000 in
theorem ggJ2_charAt_3b067_J2_checkIndex_2214a : GoodIn wsJ2_charAt_3b067 wsJ2_checkIndex_2214a := goodIn_r _ [4, 5, 6, 3, 7, 8, 9, 10, 11, 12, 13, 14, 15, 16] (by decide +kernel) (by decide +kernel)
set_option maxRecDepth 20000 in
theorem gJ2_charAt_3b067_J2_checkIndex_2214a : GoodIn wsJ2_charAt_3b067 (va_wsS RJ2 67 yJ2_checkIndex_2214a wsJ2_checkIndex_2214a) := goodIn_app (goodIn_of _ (by decide +kernel)) ggJ2_charAt_3b067_J2_checkIndex_2214a
set_option maxRecDepth 20000 in
theorem ggJ2_charAt_3b067_J2_getChar_3b067 : GoodIn wsJ2_charAt_3b067 wsJ2_getChar_3b067 := goodIn_r _ [19, 20, 21, 22, 5, 6, 3, 7] (by decide +kernel) (by decide +kernel)
set_option maxRecDepth 20000 in
theorem gJ2_charAt_3b067_J2_getChar_3b067 : GoodIn wsJ2_charAt_3b067 (va_wsS RJ2 71 yJ2_getChar_3b067 wsJ2_getChar_3b067) := goodIn_app (goodIn_of _ (by decide +kernel)) ggJ2_charAt_3b067_J2_getChar_3b067
set_option maxRecDepth 20000 in
theorem ggJ2_checkIndex_2214a_J2_length_9d52b : GoodIn wsJ2_checkIndex_2214a wsJ2_length_9d52b := goodIn_r _ [4] (by decide +kernel) (by decide +kernel)
set_option maxRecDepth 20000 in
theorem gJ2_checkIndex_2214a_J2_length_9d52b : GoodIn wsJ2_checkIndex_2214a (va_wsS RJ2 48 yJ2_length_9d52b wsJ2_length_9d52b) := goodIn_app (goodIn_of _ (by decide +kernel)) ggJ2_checkIndex_2214a_J2_length_9d52b
set_option maxRecDepth 20000 in
theorem ggJ2_checkIndex_2214a_J0_checkIndex_df160 : GoodIn wsJ2_checkIndex_2214a wsJ0_checkIndex_df160 := goodIn_r _ [8, 9, 10, 11, 12, 13] (by decide +kernel) (by decide +kernel)
set_option maxRecDepth 20000 in
theorem gJ2_checkIndex_2214a_J0_checkIndex_df160 : GoodIn wsJ2_checkIndex_2214a (va_wsS RJ2 414 yJ0_checkIndex_df160 wsJ0_checkIndex_df160) := goodIn_app (goodIn_of _ (by decide +kernel)) ggJ2_checkIndex_2214a_J0_checkIndex_df160
set_option maxRecDepth 20000 in
theorem ggL_addTeam_X8_addTeam : GoodIn wsL_addTeam wsX8_addTeam := goodIn_ca (goodIn_ca (goodIn_ca (goodIn_r _ [7, 8, 9, 10, 11, 12, 13, 14, 15, 16, 17, 18, 19, 20, 21, 22, 23, 24, 25, 26, 27, 28, 29, 30, 31, 32, 33, 34, 35, 36, 37, 38, 39, 40, 41, 42, 43, 44, 45, 46, 47, 48, 49, 50, 51, 52, 53, 54, 55, 56, 57, 58, 59, 60, 61, 62, 63, 64, 65, 66, 67, 68, 69, 70, 71, 72, 73, 74, 75, 76, 77, 78, 79, 80, 81, 82, 83, 6, 84, 85, 86, 87, 88, 89, 90, 91, 92, 93, 94, 95, 96, 97, 98, 99, 100, 101, 102, 103, 104, 105, 106, 107, 108, 109, 110, 111, 112, 113, 114, 115, 116, 117, 118, 119, 120, 121, 122, 123, 124, 125, 126, 127, 128] (by decide +kernel) (by decide +kernel)) (goodIn_sub (fun _ h => List.mem_cons_of_mem _ (List.mem_append_left _ (List.mem_append_left _ (List.mem_append_right _ h)))) (by decide +kernel))) (goodIn_sub (fun _ h => List.mem_cons_of_mem _ (List.mem_append_left _ (List.mem_append_right _ h))) (by decide +kernel))) (goodIn_sub (fun _ h => List.mem_cons_of_mem _ (List.mem_append_right _ h)) (by decide +kernel))
set_option maxRecDepth 20000 in
theorem gL_addTeam_X8_addTeam : GoodIn wsL_addTeam (wsV RL 7 RX8 yX8_addTeam wsX8_addTeam) := goodIn_app (goodIn_of _ (by decide +kernel)) ggL_addTeam_X8_addTeam
set_option maxRecDepth 20000 in
theorem ggL_freeze_X8_freeze : GoodIn wsL_freeze wsX8_freeze := goodIn_ca (goodIn_ca (goodIn_ca (goodIn_r _ [7, 8, 9, 10, 11, 12, 13, 14, 15, 16, 17, 18, 19, 20, 21, 22, 23, 24, 25, 26, 27, 28, 29, 30, 31, 32, 33, 34, 35, 36, 37, 38, 39, 40, 41, 42, 43, 44, 45, 46, 47, 48, 49, 50, 51, 52, 53, 54, 55, 56, 57, 58, 59, 60, 61, 62, 63, 64, 65, 66, 67, 68, 69, 70, 71, 72, 73, 74, 75, 76, 77, 78, 79, 80, 6, 81, 82, 83, 84, 85, 86, 87, 88, 89, 90, 91, 92, 93, 94, 95, 96, 97, 98, 99, 100, 101, 102, 103, 104, 105, 106, 107, 108, 109, 110, 111, 112, 113, 114, 115, 116, 117, 118, 119, 120, 121, 122, 123, 124, 125, 126, 127, 128, 129] (by decide +kernel) (by decide +kernel)) (goodIn_sub (fun _ h => List.mem_cons_of_mem _ (List.mem_append_left _ (List.mem_append_left _ (List.mem_append_right _ h)))) (by decide +kernel))) (goodIn_sub (fun _ h => List.mem_cons_of_mem _ (List.mem_append_left _ (List.mem_append_right _ h))) (by decide +kernel))) (goodIn_sub (fun _ h => List.mem_cons_of_mem _ (List.mem_append_right _ h)) (by decide +kernel))
set_option maxRecDepth 20000 in
theorem gL_freeze_X8_freeze : GoodIn wsL_freeze (wsV RL 17 RX8 yX8_freeze wsX8_freeze) := goodIn_app (goodIn_of _ (by decide +kernel)) ggL_freeze_X8_freeze
set_option maxRecDepth 20000 in
theorem ggL_set_X8_set : GoodIn wsL_set wsX8_set := goodIn_ca (goodIn_ca (goodIn_ca (goodIn_r _ [6, 7, 8, 9, 10, 11, 12, 13, 14, 15, 16, 17, 18, 19, 20, 21, 22, 23, 24, 25, 26, 27, 28, 29, 30, 31, 32, 33, 34, 35, 36, 37, 38, 39, 40, 41, 42, 43, 44, 45, 46, 47, 48, 49, 50, 51, 52, 53, 54, 55, 56, 57, 58, 59, 60, 61, 62, 63, 64, 65, 66, 67, 68, 69, 70, 71, 72, 73, 74, 75, 76, 77, 5, 78, 79, 80, 81, 82, 83, 84, 85, 86, 87, 88, 89, 90, 91, 92, 93, 94, 95, 96, 97, 98, 99, 100, 101, 102, 103, 104, 105, 106, 107, 108, 109, 110, 111, 112, 113, 114, 115, 116, 117, 118, 119, 120, 121, 122] (by decide +kernel) (by decide +kernel)) (goodIn_sub (fun _ h => List.mem_cons_of_mem _ (List.mem_append_left _ (List.mem_append_left _ (List.mem_append_right _ h)))) (by decide +kernel))) (goodIn_sub (fun _ h => List.mem_cons_of_mem _ (List.mem_append_left _ (List.mem_append_right _ h))) (by decide +kernel))) (goodIn_sub (fun _ h => List.mem_cons_of_mem _ (List.mem_append_right _ h)) (by decide +kernel))
set_option maxRecDepth 20000 in
theorem gL_set_X8_set : GoodIn wsL_set (wsV RL 21 RX8 yX8_set wsX8_set) := goodIn_app (goodIn_of _ (by decide +kernel)) ggL_set_X8_set
set_option maxRecDepth 20000 in
theorem ggL_endWeek_X8_endWeek : GoodIn wsL_endWeek wsX8_endWeek := goodIn_ca (goodIn_ca (goodIn_ca (goodIn_r _ [6, 7, 8, 9, 10, 11, 12, 13, 14, 15, 16, 17, 18, 19, 20, 21, 22, 23, 24, 25, 26, 27, 28, 29, 30, 31, 32, 33, 34, 35, 36, 37, 38, 39, 40, 41, 42, 43, 44, 45, 46, 47, 48, 49, 50, 51, 52, 53, 54, 55, 56, 57, 58, 59, 60, 61, 62, 63, 64, 65, 66, 67, 68, 69, 70, 71, 72, 73, 74, 75, 76, 77, 78, 79, 80, 81, 82, 83, 84, 85, 86, 87, 88, 89, 90, 91, 92, 93, 94, 95, 96, 97, 98, 99, 100, 101, 102, 103, 104, 105, 106, 107, 108, 109, 110, 111, 112, 113, 114, 115, 116, 5, 117, 118, 119, 120, 121, 122, 123, 124, 125, 126, 127, 128, 129, 130, 131, 132, 133, 134, 135, 136, 137, 138, 139, 140, 141, 142, 143, 144, 145, 146, 147, 148, 149, 150, 151, 152, 153, 154, 155, 156, 157, 158, 159, 160, 161] (by decide +kernel) (by decide +kernel)) (goodIn_sub (fun _ h => List.mem_cons_of_mem _ (List.mem_append_left _ (List.mem_append_left _ (List.mem_append_right _ h)))) (by decide +kernel))) (goodIn_sub (fun _ h => List.mem_cons_of_mem _ (List.mem_append_left _ (List.mem_append_right _ h))) (by decide +kernel))) (goodIn_sub (fun _ h => List.mem_cons_of_mem _ (List.mem_append_right _ h)) (by decide +kernel))
set_option maxRecDepth 20000 in
theorem gL_endWeek_X8_endWeek : GoodIn wsL_endWeek (wsV RL 25 RX8 yX8_endWeek wsX8_endWeek) := goodIn_app (goodIn_of _ (by decide +kernel)) ggL_endWeek_X8_endWeek
set_option maxRecDepth 20000 in
theorem ggL_ask_X8_ask : GoodIn wsL_ask wsX8_ask := goodIn_ca (goodIn_ca (goodIn_ca (goodIn_r _ [8, 9, 10, 11, 12, 13, 14, 15, 16, 17, 18, 19, 20, 21, 22, 23, 24, 25, 26, 27, 28, 29, 30, 31, 32, 33, 34, 35, 36, 37, 38, 39, 40, 41, 42, 43, 44, 45, 46, 47, 48, 49, 50, 51, 52, 53, 54, 55, 56, 57, 58, 59, 60, 61, 62, 63, 64, 65, 66, 67, 68, 69, 70, 71, 72, 73, 74, 75, 76, 77, 78, 79, 80, 81, 82, 7, 83, 84, 85, 86, 87, 88, 89, 90, 91, 92, 93, 94, 95, 96, 97, 98, 99, 100, 101, 102, 103, 104, 105, 106, 107, 108, 109, 110, 111, 112, 113, 114, 115, 116, 117, 118, 119, 120, 121, 122, 123, 124, 125, 126, 127, 128, 129, 130, 131, 132, 133, 134, 135, 136, 137, 138, 139] (by decide +kernel) (by decide +kernel)) (goodIn_sub (fun _ h => List.mem_cons_of_mem _ (List.mem_append_left _ (List.mem_append_left _ (List.mem_append_right _ h)))) (by decide +kernel))) (goodIn_sub (fun _ h => List.mem_cons_of_mem _ (List.mem_append_left _ (List.mem_append_right _ h))) (by decide +kernel))) (goodIn_sub (fun _ h => List.mem_cons_of_mem _ (List.mem_append_right _ h)) (by decide +kernel))
set_option maxRecDepth 20000 in
theorem gL_ask_X8_ask : GoodIn wsL_ask (wsV RL 29 RX8 yX8_ask wsX8_ask) := goodIn_app (goodIn_of _ (by decide +kernel)) ggL_ask_X8_ask
set_option maxRecDepth 20000 in
theorem ggL_exempt_X8_exempt : GoodIn wsL_exempt wsX8_exempt := goodIn_ca (goodIn_ca (goodIn_ca (goodIn_r _ [7, 8, 9, 10, 11, 12, 13, 14, 15, 16, 17, 18, 19, 20, 21, 22, 23, 24, 25, 26, 27, 28, 29, 30, 31, 32, 33, 34, 35, 36, 37, 38, 39, 40, 41, 42, 43, 44, 45, 46, 47, 48, 49, 50, 51, 52, 53, 54, 55, 56, 57, 58, 59, 60, 61, 62, 63, 64, 65, 66, 67, 68, 69, 70, 71, 72, 73, 74, 75, 76, 77, 78, 79, 80, 81, 82, 83, 84, 85, 86, 87, 88, 89, 90, 91, 92, 93, 94, 95, 96, 97, 98, 99, 100, 101, 102, 103, 6, 104, 105, 106, 107, 108, 109, 110, 111, 112, 113, 114, 115, 116, 117, 118, 119, 120, 121, 122, 123, 124, 125, 126, 127, 128, 129, 130, 131, 132, 133, 134, 135, 136, 137, 138, 139, 140, 141, 142, 143, 144, 145, 146, 147, 148] (by decide +kernel) (by decide +kernel)) (goodIn_sub (fun _ h => List.mem_cons_of_mem _ (List.mem_append_left _ (List.mem_append_left _ (List.mem_append_right _ h)))) (by decide +kernel))) (goodIn_sub (fun _ h => List.mem_cons_of_mem _ (List.mem_append_left _ (List.mem_append_right _ h))) (by decide +kernel))) (goodIn_sub (fun _ h => List.mem_cons_of_mem _ (List.mem_append_right _ h)) (by decide +kernel))
set_option maxRecDepth 20000 in
theorem gL_exempt_X8_exempt : GoodIn wsL_exempt (wsV RL 34 RX8 yX8_exempt wsX8_exempt) := goodIn_app (goodIn_of _ (by decide +kernel)) ggL_exempt_X8_exempt
set_option maxRecDepth 20000 in
theorem ggL_make_X8_make : GoodIn wsL_make wsX8_make := goodIn_ca (goodIn_ca (goodIn_ca (goodIn_r _ [7, 8, 9, 10, 11, 12, 13, 14, 15, 16, 17, 18, 19, 20, 21, 22, 23, 24, 25, 26, 27, 28, 29, 30, 31, 32, 33, 34, 35, 36, 37, 38, 39, 40, 41, 42, 43, 44, 45, 46, 47, 48, 49, 50, 51, 52, 53, 54, 55, 56, 57, 58, 59, 60, 61, 62, 63, 64, 65, 66, 67, 68, 69, 70, 71, 72, 73, 74, 75, 76, 77, 78, 79, 80, 81, 82, 83, 84, 85, 86, 87, 88, 89, 90, 91, 92, 93, 94, 95, 6, 96, 97, 98, 99, 100, 101, 102, 103, 104, 105, 106, 107, 108, 109, 110, 111, 112, 113, 114, 115, 116, 117, 118, 119, 120, 121, 122, 123, 124, 125, 126, 127, 128, 129, 130, 131, 132, 133, 134, 135, 136, 137, 138, 139, 140, 141, 142, 143, 144, 145, 146, 147, 148, 149, 150, 151, 152] (by decide +kernel) (by decide +kernel)) (goodIn_sub (fun _ h => List.mem_cons_of_mem _ (List.mem_append_left _ (List.mem_append_left _ (List.mem_append_right _ h)))) (by decide +kernel))) (goodIn_sub (fun _ h => List.mem_cons_of_mem _ (List.mem_append_left _ (List.mem_append_right _ h))) (by decide +kernel))) (goodIn_sub (fun _ h => List.mem_cons_of_mem _ (List.mem_append_right _ h)) (by decide +kernel))
set_option maxRecDepth 20000 in
theorem gL_make_X8_make : GoodIn wsL_make (wsV RL 37 RX8 yX8_make wsX8_make) := goodIn_app (goodIn_of _ (by decide +kernel)) ggL_make_X8_make
set_option maxRecDepth 20000 in
theorem ggL_giveUp_X8_giveUp : GoodIn wsL_giveUp wsX8_giveUp := goodIn_ca (goodIn_ca (goodIn_ca (goodIn_r _ [7, 8, 9, 10, 11, 12, 13, 14, 15, 16, 17, 18, 19, 20, 21, 22, 23, 24, 25, 26, 27, 28, 29, 30, 31, 32, 33, 34, 35, 36, 37, 38, 39, 40, 41, 42, 43, 44, 45, 46, 47, 48, 49, 50, 51, 52, 53, 54, 55, 56, 57, 58, 59, 60, 61, 62, 63, 64, 65, 66, 67, 68, 69, 70, 71, 72, 73, 74, 75, 76, 77, 78, 79, 80, 81, 82, 83, 84, 85, 86, 87, 88, 89, 90, 91, 92, 93, 94, 95, 96, 6, 97, 98, 99, 100, 101, 102, 103, 104, 105, 106, 107, 108, 109, 110, 111, 112, 113, 114, 115, 116, 117, 118, 119, 120, 121, 122, 123, 124, 125, 126, 127, 128, 129, 130, 131, 132, 133, 134, 135, 136, 137, 138, 139, 140, 141] (by decide +kernel) (by decide +kernel)) (goodIn_sub (fun _ h => List.mem_cons_of_mem _ (List.mem_append_left _ (List.mem_append_left _ (List.mem_append_right _ h)))) (by decide +kernel))) (goodIn_sub (fun _ h => List.mem_cons_of_mem _ (List.mem_append_left _ (List.mem_append_right _ h))) (by decide +kernel))) (goodIn_sub (fun _ h => List.mem_cons_of_mem _ (List.mem_append_right _ h)) (by decide +kernel))
set_option maxRecDepth 20000 in
theorem gL_giveUp_X8_giveUp : GoodIn wsL_giveUp (wsV RL 41 RX8 yX8_giveUp wsX8_giveUp) := goodIn_app (goodIn_of _ (by decide +kernel)) ggL_giveUp_X8_giveUp
set_option maxRecDepth 20000 in
theorem ggL_lend_X8_lend : GoodIn wsL_lend wsX8_lend := goodIn_ca (goodIn_ca (goodIn_ca (goodIn_r _ [8, 9, 10, 11, 12, 13, 14, 15, 16, 17, 18, 19, 20, 21, 22, 23, 24, 25, 26, 27, 28, 29, 30, 31, 32, 33, 34, 35, 36, 37, 38, 39, 40, 41, 42, 43, 44, 45, 46, 47, 48, 49, 50, 51, 52, 53, 54, 55, 56, 57, 58, 59, 60, 61, 62, 63, 64, 65, 66, 67, 68, 69, 70, 71, 72, 73, 74, 75, 76, 77, 78, 79, 80, 81, 82, 83, 84, 85, 86, 87, 88, 89, 90, 91, 92, 93, 94, 95, 96, 97, 7, 98, 99, 100, 101, 102, 103, 104, 105, 106, 107, 108, 109, 110, 111, 112, 113, 114, 115, 116, 117, 118, 119, 120, 121, 122, 123, 124, 125, 126, 127, 128, 129, 130, 131, 132, 133, 134, 135, 136, 137, 138, 139, 140, 141, 142] (by decide +kernel) (by decide +kernel)) (goodIn_sub (fun _ h => List.mem_cons_of_mem _ (List.mem_append_left _ (List.mem_append_left _ (List.mem_append_right _ h)))) (by decide +kernel))) (goodIn_sub (fun _ h => List.mem_cons_of_mem _ (List.mem_append_left _ (List.mem_append_right _ h))) (by decide +kernel))) (goodIn_sub (fun _ h => List.mem_cons_of_mem _ (List.mem_append_right _ h)) (by decide +kernel))
set_option maxRecDepth 20000 in
theorem gL_lend_X8_lend : GoodIn wsL_lend (wsV RL 44 RX8 yX8_lend wsX8_lend) := goodIn_app (goodIn_of _ (by decide +kernel)) ggL_lend_X8_lend
set_option maxRecDepth 20000 in
theorem ggL_repay_X8_repay : GoodIn wsL_repay wsX8_repay := goodIn_ca (goodIn_ca (goodIn_ca (goodIn_r _ [8, 9, 10, 11, 12, 13, 14, 15, 16, 17, 18, 19, 20, 21, 22, 23, 24, 25, 26, 27, 28, 29, 30, 31, 32, 33, 34, 35, 36, 37, 38, 39, 40, 41, 42, 43, 44, 45, 46, 47, 48, 49, 50, 51, 52, 53, 54, 55, 56, 57, 58, 59, 60, 61, 62, 63, 64, 65, 66, 67, 68, 69, 70, 71, 72, 73, 74, 75, 76, 77, 78, 79, 80, 81, 82, 83, 84, 85, 86, 87, 88, 89, 90, 91, 92, 93, 94, 95, 7, 96, 97, 98, 99, 100, 101, 102, 103, 104, 105, 106, 107, 108, 109, 110, 111, 112, 113, 114, 115, 116, 117, 118, 119, 120, 121, 122, 123, 124, 125, 126, 127, 128, 129, 130, 131, 132, 133, 134, 135, 136, 137, 138, 139, 140] (by decide +kernel) (by decide +kernel)) (goodIn_sub (fun _ h => List.mem_cons_of_mem _ (List.mem_append_left _ (List.mem_append_left _ (List.mem_append_right _ h)))) (by decide +kernel))) (goodIn_sub (fun _ h => List.mem_cons_of_mem _ (List.mem_append_left _ (List.mem_append_right _ h))) (by decide +kernel))) (goodIn_sub (fun _ h => List.mem_cons_of_mem _ (List.mem_append_right _ h)) (by decide +kernel))
set_option maxRecDepth 20000 in
theorem gL_repay_X8_repay : GoodIn wsL_repay (wsV RL 48 RX8 yX8_repay wsX8_repay) := goodIn_app (goodIn_of _ (by decide +kernel)) ggL_repay_X8_repay
set_option maxRecDepth 20000 in
theorem ggL_team_X8_team : GoodIn wsL_team wsX8_team := goodIn_ca (goodIn_ca (goodIn_r _ [7, 8, 9, 10, 11, 6, 12, 13, 14, 15, 16, 17, 18, 19, 20, 21, 22, 23, 24, 25, 26, 27, 28, 29, 30, 31, 32, 33, 34, 35, 36, 37, 38, 39, 40, 41, 42, 43, 44, 45, 46, 47, 48, 49, 50, 51, 52, 53, 54, 55, 56, 57, 58, 59, 60, 61, 62, 63, 64, 65, 66, 67, 68, 69, 70, 71, 72, 73, 74, 75, 76, 77, 78, 79, 80, 81, 82, 83, 84, 85, 86, 87, 88, 89, 90, 91, 92, 93, 94, 95, 96, 97, 98, 99, 100, 101, 102, 103, 104, 105, 106, 107, 108, 109, 110, 111, 112, 113] (by decide +kernel) (by decide +kernel)) (goodIn_sub (fun _ h => List.mem_cons_of_mem _ (List.mem_append_left _ (List.mem_append_right _ h))) (by decide +kernel))) (goodIn_sub (fun _ h => List.mem_cons_of_mem _ (List.mem_append_right _ h)) (by decide +kernel))
set_option maxRecDepth 20000 in
theorem gL_team_X8_team : GoodIn wsL_team (wsV RL 51 RX8 yX8_team wsX8_team) := goodIn_app (goodIn_of _ (by decide +kernel)) ggL_team_X8_team
set_option maxRecDepth 20000 in
theorem ggL_change_X8_change : GoodIn wsL_change wsX8_change := goodIn_ca (goodIn_ca (goodIn_r _ [7, 8, 9, 10, 11, 12, 6, 13, 14, 15, 16, 17, 18, 19, 20, 21, 22, 23, 24, 25, 26, 27, 28, 29, 30, 31, 32, 33, 34, 35, 36, 37, 38, 39, 40, 41, 42, 43, 44, 45, 46, 47, 48, 49, 50, 51, 52, 53, 54, 55, 56, 57, 58] (by decide +kernel) (by decide +kernel)) (goodIn_sub (fun _ h => List.mem_cons_of_mem _ (List.mem_append_left _ (List.mem_append_right _ h))) (by decide +kernel))) (goodIn_sub (fun _ h => List.mem_cons_of_mem _ (List.mem_append_right _ h)) (by decide +kernel))
set_option maxRecDepth 20000 in
theorem gL_change_X8_change : GoodIn wsL_change (wsV RL 54 RX8 yX8_change wsX8_change) := goodIn_app (goodIn_of _ (by decide +kernel)) ggL_change_X8_change
set_option maxRecDepth 20000 in
theorem ggL_loan_X8_loan : GoodIn wsL_loan wsX8_loan := goodIn_ca (goodIn_ca (goodIn_r _ [7, 8, 9, 10, 11, 12, 13, 14, 15, 16, 17, 18, 19, 20, 6, 21, 22, 23, 24, 25, 26, 27, 28, 29, 30, 31, 32, 33, 34, 35, 36, 37, 38, 39, 40, 41, 42, 43, 44, 45, 46, 47, 48, 49, 50] (by decide +kernel) (by decide +kernel)) (goodIn_sub (fun _ h => List.mem_cons_of_mem _ (List.mem_append_left _ (List.mem_append_right _ h))) (by decide +kernel))) (goodIn_sub (fun _ h => List.mem_cons_of_mem _ (List.mem_append_right _ h)) (by decide +kernel))
set_option maxRecDepth 20000 in
theorem gL_loan_X8_loan : GoodIn wsL_loan (wsV RL 57 RX8 yX8_loan wsX8_loan) := goodIn_app (goodIn_of _ (by decide +kernel)) ggL_loan_X8_loan
set_option maxRecDepth 20000 in
theorem ggL_waiting_X8_waiting : GoodIn wsL_waiting wsX8_waiting := goodIn_ca (goodIn_r _ [6, 7, 8, 9, 10, 11, 12, 13, 14, 15, 16, 17, 18, 19, 20, 21, 22, 23, 24, 25, 26, 27, 28, 29, 30, 31, 32] (by decide +kernel) (by decide +kernel)) (goodIn_sub (fun _ h => List.mem_cons_of_mem _ (List.mem_append_right _ h)) (by decide +kernel))
set_option maxRecDepth 20000 in
theorem gL_waiting_X8_waiting : GoodIn wsL_waiting (wsV RL 60 RX8 yX8_waiting wsX8_waiting) := goodIn_app (goodIn_of _ (by decide +kernel)) ggL_waiting_X8_waiting
set_option maxRecDepth 20000 in
theorem ggL_frozen_X8_frozen : GoodIn wsL_frozen wsX8_frozen := goodIn_ca (goodIn_r _ [6, 7, 8, 9, 10, 11, 12, 5, 13, 14, 15, 16, 17, 18, 19, 20, 21, 22, 23] (by decide +kernel) (by decide +kernel)) (goodIn_sub (fun _ h => List.mem_cons_of_mem _ (List.mem_append_right _ h)) (by decide +kernel))
set_option maxRecDepth 20000 in
theorem gL_frozen_X8_frozen : GoodIn wsL_frozen (wsV RL 63 RX8 yX8_frozen wsX8_frozen) := goodIn_app (goodIn_of _ (by decide +kernel)) ggL_frozen_X8_frozen
set_option maxRecDepth 20000 in
theorem ggL_whole_X8_whole : GoodIn wsL_whole wsX8_whole := goodIn_ca (goodIn_r _ [6, 7, 8, 9, 5, 10, 11, 12, 13, 14, 15, 16, 17, 18, 19, 20, 21, 22, 23, 24, 25, 26, 27, 28, 29, 30, 31, 32, 33, 34, 35, 36, 37, 38, 39, 40, 41, 42, 43, 44, 45, 46, 47, 48, 49, 50, 51, 52, 53, 54, 55, 56, 57, 58, 59, 60, 61, 62, 63, 64, 65, 66, 67, 68, 69, 70, 71, 72, 73, 74, 75, 76, 77, 78, 79, 80, 81, 82, 83, 84, 85, 86, 87, 88, 89, 90, 91, 92, 93, 94, 95, 96, 97, 98, 99, 100, 101, 102, 103, 104, 105, 106, 107, 108, 109, 110, 111, 112, 113, 114, 115, 116, 117, 118, 119] (by decide +kernel) (by decide +kernel)) (goodIn_sub (fun _ h => List.mem_cons_of_mem _ (List.mem_append_right _ h)) (by decide +kernel))
set_option maxRecDepth 20000 in
theorem gL_whole_X8_whole : GoodIn wsL_whole (wsV RL 66 RX8 yX8_whole wsX8_whole) := goodIn_app (goodIn_of _ (by decide +kernel)) ggL_whole_X8_whole
set_option maxRecDepth 20000 in
theorem ggL_reason_X8_reason : GoodIn wsL_reason wsX8_reason := goodIn_ca (goodIn_r _ [6, 7, 8, 9, 10, 5, 11, 12, 13, 14, 15, 16, 17, 18, 19, 20, 21, 22, 23, 24, 25, 26, 27, 28, 29, 30, 31, 32, 33, 34, 35, 36, 37, 38, 39, 40, 41, 42, 43, 44, 45, 46, 47, 48, 49, 50, 51, 52, 53, 54, 55, 56, 57, 58, 59, 60, 61, 62, 63, 64, 65, 66, 67, 68, 69, 70, 71, 72, 73, 74, 75, 76, 77, 78, 79, 80, 81, 82, 83] (by decide +kernel) (by decide +kernel)) (goodIn_sub (fun _ h => List.mem_cons_of_mem _ (List.mem_append_right _ h)) (by decide +kernel))
set_option maxRecDepth 20000 in
theorem gL_reason_X8_reason : GoodIn wsL_reason (wsV RL 69 RX8 yX8_reason wsX8_reason) := goodIn_app (goodIn_of _ (by decide +kernel)) ggL_reason_X8_reason
set_option maxRecDepth 20000 in
theorem ggL_exemptible_X8_exemptible : GoodIn wsL_exemptible wsX8_exemptible := goodIn_ca (goodIn_r _ [6, 7, 8, 9, 10, 5, 11, 12, 13, 14, 15, 16, 17, 18, 19, 20, 21, 22, 23, 24, 25, 26, 27, 28, 29, 30, 31, 32, 33, 34, 35, 36, 37, 38, 39, 40, 41, 42, 43, 44, 45, 46, 47, 48, 49, 50, 51, 52, 53, 54, 55, 56, 57, 58, 59, 60, 61, 62, 63, 64, 65, 66, 67, 68, 69, 70, 71, 72, 73, 74, 75, 76, 77, 78, 79, 80, 81, 82, 83, 84, 85] (by decide +kernel) (by decide +kernel)) (goodIn_sub (fun _ h => List.mem_cons_of_mem _ (List.mem_append_right _ h)) (by decide +kernel))
set_option maxRecDepth 20000 in
theorem gL_exemptible_X8_exemptible : GoodIn wsL_exemptible (wsV RL 72 RX8 yX8_exemptible wsX8_exemptible) := goodIn_app (goodIn_of _ (by decide +kernel)) ggL_exemptible_X8_exemptible
set_option maxRecDepth 20000 in
theorem ggL_weeksUntil_X8_weeksUntil : GoodIn wsL_weeksUntil wsX8_weeksUntil := goodIn_ca (goodIn_ca (goodIn_r _ [7, 8, 9, 10, 11, 12, 13, 14, 15, 6, 16, 17, 18, 19, 20, 21, 22, 23, 24, 25, 26, 27, 28, 29, 30, 31, 32, 33, 34, 35, 36, 37, 38, 39, 40, 41, 42, 43, 44, 45, 46, 47, 48, 49, 50, 51, 52, 53, 54, 55, 56, 57, 58, 59, 60, 61, 62, 63, 64, 65, 66, 67, 68, 69, 70, 71, 72, 73, 74, 75, 76, 77, 78, 79, 80, 81, 82, 83, 84, 85, 86, 87, 88, 89, 90, 91, 92, 93, 94, 95, 96, 97, 98, 99, 100, 101, 102, 103, 104, 105, 106, 107, 108, 109, 110, 111, 112, 113, 114, 115, 116, 117, 118, 119, 120, 121, 122, 123, 124, 125, 126, 127, 128, 129, 130, 131, 132, 133, 134, 135, 136, 137, 138, 139, 140, 141, 142, 143, 144, 145, 146, 147, 148, 149, 150, 151, 152, 153, 154, 155, 156, 157, 158, 159, 160, 161, 162, 163, 164, 165] (by decide +kernel) (by decide +kernel)) (goodIn_sub (fun _ h => List.mem_cons_of_mem _ (List.mem_append_left _ (List.mem_append_right _ h))) (by decide +kernel))) (goodIn_sub (fun _ h => List.mem_cons_of_mem _ (List.mem_append_right _ h)) (by decide +kernel))
set_option maxRecDepth 20000 in
theorem gL_weeksUntil_X8_weeksUntil : GoodIn wsL_weeksUntil (wsV RL 75 RX8 yX8_weeksUntil wsX8_weeksUntil) := goodIn_app (goodIn_of _ (by decide +kernel)) ggL_weeksUntil_X8_weeksUntil
set_option maxRecDepth 20000 in
theorem ggL_lender_X8_lender : GoodIn wsL_lender wsX8_lender := goodIn_ca (goodIn_ca (goodIn_r _ [7, 8, 9, 10, 11, 12, 13, 6, 14, 15, 16, 17, 18, 19, 20, 21, 22, 23, 24, 25, 26, 27, 28, 29, 30, 31, 32, 33, 34, 35, 36, 37, 38, 39, 40, 41, 42, 43, 44, 45, 46, 47, 48, 49, 50, 51, 52, 53, 54, 55, 56, 57, 58, 59, 60, 61, 62, 63, 64, 65, 66, 67, 68, 69, 70, 71, 72, 73, 74, 75, 76, 77, 78, 79] (by decide +kernel) (by decide +kernel)) (goodIn_sub (fun _ h => List.mem_cons_of_mem _ (List.mem_append_left _ (List.mem_append_right _ h))) (by decide +kernel))) (goodIn_sub (fun _ h => List.mem_cons_of_mem _ (List.mem_append_right _ h)) (by decide +kernel))
set_option maxRecDepth 20000 in
theorem gL_lender_X8_lender : GoodIn wsL_lender (wsV RL 78 RX8 yX8_lender wsX8_lender) := goodIn_app (goodIn_of _ (by decide +kernel)) ggL_lender_X8_lender
set_option maxRecDepth 20000 in
theorem ggL_inBeing_X8_inBeing : GoodIn wsL_inBeing wsX8_inBeing := goodIn_ca (goodIn_r _ [6, 7, 8, 9, 10, 11, 12, 13, 14, 15, 16, 17, 18, 19, 20, 21, 22, 23, 24, 25, 26, 27, 28, 29, 30, 31, 32, 33, 34, 35, 36, 37, 38, 39, 40, 41, 42, 43, 44, 45, 46, 47, 48, 49, 50, 51, 52, 53, 54, 55, 56, 57, 58, 59, 60, 61, 62, 63, 64, 65, 66, 67, 68, 69, 70, 71, 72, 73, 74, 75, 76, 77, 78, 79, 80, 81, 82, 83, 84, 85, 86, 87, 88, 89, 90, 91, 92, 93, 94, 95, 96, 97, 98, 99, 100, 101, 102, 103, 104, 105, 106, 107, 108, 109, 110, 111, 112, 113, 114, 5, 115, 116, 117, 118, 119, 120, 121, 122, 123, 124, 125, 126, 127, 128, 129, 130, 131, 132, 133, 134, 135, 136, 137, 138, 139, 140, 141, 142, 143, 144, 145, 146, 147, 148, 149, 150, 151, 152, 153] (by decide +kernel) (by decide +kernel)) (goodIn_sub (fun _ h => List.mem_cons_of_mem _ (List.mem_append_right _ h)) (by decide +kernel))
set_option maxRecDepth 20000 in
theorem gL_inBeing_X8_inBeing : GoodIn wsL_inBeing (wsV RL 81 RX8 yX8_inBeing wsX8_inBeing) := goodIn_app (goodIn_of _ (by decide +kernel)) ggL_inBeing_X8_inBeing
set_option maxRecDepth 20000 in
theorem ggL_type_X8_type : GoodIn wsL_type wsX8_type := goodIn_ca (goodIn_ca (goodIn_r _ [7, 8, 9, 10, 11, 12, 13, 14, 15, 16, 17, 18, 19, 20, 21, 22, 23, 24, 25, 26, 27, 28, 29] (by decide +kernel) (by decide +kernel)) (goodIn_sub (fun _ h => List.mem_cons_of_mem _ (List.mem_append_left _ (List.mem_append_right _ h))) (by decide +kernel))) (goodIn_sub (fun _ h => List.mem_cons_of_mem _ (List.mem_append_right _ h)) (by decide +kernel))
set_option maxRecDepth 20000 in
theorem gL_type_X8_type : GoodIn wsL_type (wsV RL 84 RX8 yX8_type wsX8_type) := goodIn_app (goodIn_of _ (by decide +kernel)) ggL_type_X8_type
set_option maxRecDepth 20000 in
theorem ggL_undo_X8_undo : GoodIn wsL_undo wsX8_undo := goodIn_ca (goodIn_r _ [6, 7, 8, 9, 10, 11, 12, 13, 14, 15, 16, 17, 18, 19, 20, 21, 22, 23, 24, 25, 26, 27, 28, 29, 30, 31, 32, 33, 34, 35, 36, 37, 38, 39, 40, 41, 42, 43, 44, 45, 46, 47, 48, 49, 50, 51, 52, 53, 54, 55, 56, 57, 58, 59, 60, 61, 62, 63, 64, 65, 66, 67, 68, 69, 70, 71, 72, 73, 74, 75, 76, 77, 78, 79, 80, 81, 82, 83, 84, 85, 86, 87, 88, 89, 90, 91, 92, 93, 94, 95, 96, 97, 98, 99, 100, 101, 102, 103, 104, 105, 106, 107] (by decide +kernel) (by decide +kernel)) (goodIn_sub (fun _ h => List.mem_cons_of_mem _ (List.mem_append_right _ h)) (by decide +kernel))
set_option maxRecDepth 20000 in
theorem gL_undo_X8_undo : GoodIn wsL_undo (wsV RL 87 RX8 yX8_undo wsX8_undo) := goodIn_app (goodIn_of _ (by decide +kernel)) ggL_undo_X8_undo
