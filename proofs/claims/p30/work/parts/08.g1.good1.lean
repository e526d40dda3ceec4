theorem goodIn_td {big ws : List Cond} (n : Nat) (h1 : GoodIn big (ws.take n)) (h2 : GoodIn big (ws.drop n)) : GoodIn big ws := fun w hw => by
  rw [← List.take_append_drop n ws] at hw
  exact goodIn_app h1 h2 w hw
set_option maxRecDepth 20000 in
theorem ggX1_init_X6_init : GoodIn wsX1_init wsX6_init := goodIn_r _ [26, 27, 2, 3, 28, 29, 30, 31, 32, 59, 60, 61, 62, 63] (by decide +kernel) (by decide +kernel)
set_option maxRecDepth 20000 in
theorem gX1_init_X6_init_n29 : GoodIn wsX1_init (wsX6_init) := ggX1_init_X6_init
set_option maxRecDepth 20000 in
theorem ggX1_init_X2_init : GoodIn wsX1_init wsX2_init := goodIn_r _ [34, 35, 2, 3, 28, 36, 37, 38, 39, 40, 41, 42, 43, 64, 65, 66, 67, 68, 69, 70, 71, 72, 73] (by decide +kernel) (by decide +kernel)
set_option maxRecDepth 20000 in
theorem gX1_init_X2_init_n36 : GoodIn wsX1_init (wsX2_init) := ggX1_init_X2_init
set_option maxRecDepth 20000 in
theorem ggX1_init_X5_init : GoodIn wsX1_init wsX5_init := goodIn_r _ [45, 46, 2, 3, 28, 47, 48, 49, 50, 51, 52, 74, 75, 76, 77, 78, 79, 80] (by decide +kernel) (by decide +kernel)
set_option maxRecDepth 20000 in
theorem gX1_init_X5_init_n43 : GoodIn wsX1_init (wsX5_init) := ggX1_init_X5_init
set_option maxRecDepth 20000 in
theorem ggX1_copyFrom_X6_copyFrom : GoodIn wsX1_copyFrom wsX6_copyFrom := goodIn_r _ [15, 16, 17, 18, 4, 5, 6, 19, 20, 21, 57, 58, 59, 60, 61] (by decide +kernel) (by decide +kernel)
set_option maxRecDepth 20000 in
theorem gX1_copyFrom_X6_copyFrom : GoodIn wsX1_copyFrom (wsV RX1 58 RX6 yX6_copyFrom wsX6_copyFrom) := goodIn_app (goodIn_of _ (by decide +kernel)) ggX1_copyFrom_X6_copyFrom
set_option maxRecDepth 20000 in
theorem ggX1_copyFrom_X2_copyFrom : GoodIn wsX1_copyFrom wsX2_copyFrom := goodIn_r _ [26, 27, 28, 29, 30, 4, 5, 6, 31, 32, 33, 34, 35, 36, 37, 62, 63, 64, 65, 66, 67, 68, 69, 70, 71] (by decide +kernel) (by decide +kernel)
set_option maxRecDepth 20000 in
theorem gX1_copyFrom_X2_copyFrom : GoodIn wsX1_copyFrom (wsV RX1 62 RX2 yX2_copyFrom wsX2_copyFrom) := goodIn_app (goodIn_of _ (by decide +kernel)) ggX1_copyFrom_X2_copyFrom
set_option maxRecDepth 20000 in
theorem ggX1_copyFrom_X5_copyFrom : GoodIn wsX1_copyFrom wsX5_copyFrom := goodIn_r _ [42, 43, 44, 45, 4, 5, 6, 46, 47, 48, 49, 50, 72, 73, 74, 75, 76, 77, 78] (by decide +kernel) (by decide +kernel)
set_option maxRecDepth 20000 in
theorem gX1_copyFrom_X5_copyFrom : GoodIn wsX1_copyFrom (wsV RX1 65 RX5 yX5_copyFrom wsX5_copyFrom) := goodIn_app (goodIn_of _ (by decide +kernel)) ggX1_copyFrom_X5_copyFrom
set_option maxRecDepth 20000 in
theorem ggX1_bringTeam_X6_append : GoodIn wsX1_bringTeam wsX6_append := goodIn_r _ [7, 8, 9, 10, 11, 12, 19, 20, 21, 22, 23] (by decide +kernel) (by decide +kernel)
set_option maxRecDepth 20000 in
theorem gX1_bringTeam_X6_append : GoodIn wsX1_bringTeam (wsV RX1 71 RX6 yX6_append wsX6_append) := goodIn_app (goodIn_of _ (by decide +kernel)) ggX1_bringTeam_X6_append
set_option maxRecDepth 20000 in
theorem ggX1_markWeeks_X1_countFrozen : GoodIn wsX1_markWeeks wsX1_countFrozen := goodIn_r _ [7, 2, 8, 9, 10, 11, 12, 13, 14, 15, 16] (by decide +kernel) (by decide +kernel)
set_option maxRecDepth 20000 in
theorem gX1_markWeeks_X1_countFrozen : GoodIn wsX1_markWeeks (wsV RX1 75 RX1 yX1_countFrozen wsX1_countFrozen) := goodIn_app (goodIn_of _ (by decide +kernel)) ggX1_markWeeks_X1_countFrozen
set_option maxRecDepth 20000 in
theorem ggX1_closeWeek_X1_earnAll : GoodIn wsX1_closeWeek wsX1_earnAll := goodIn_r _ [6, 7, 8, 9, 1, 10, 11, 12, 13, 14, 15, 16, 17, 18, 19, 20, 21, 22, 23, 24, 25, 26, 27, 28, 29, 30, 31, 32, 33, 54, 55, 56, 57, 58, 59, 60, 61, 62, 63, 64, 65, 66, 67, 68, 69, 70, 71, 72, 73, 74] (by decide +kernel) (by decide +kernel)
set_option maxRecDepth 20000 in
theorem gX1_closeWeek_X1_earnAll : GoodIn wsX1_closeWeek (wsV RX1 84 RX1 yX1_earnAll wsX1_earnAll) := goodIn_app (goodIn_of _ (by decide +kernel)) ggX1_closeWeek_X1_earnAll
set_option maxRecDepth 20000 in
theorem ggX1_closeWeek_X1_collectDueLoans : GoodIn wsX1_closeWeek wsX1_collectDueLoans := goodIn_r _ [37, 1, 38, 39, 40, 41, 42, 27, 28, 29, 43, 44, 45, 5, 46, 7, 47, 48, 49, 50, 51, 52, 53, 54, 55, 56, 57, 58, 59, 75, 76, 77, 78, 79, 80, 81, 60, 61, 62, 63, 64] (by decide +kernel) (by decide +kernel)
set_option maxRecDepth 20000 in
theorem gX1_closeWeek_X1_collectDueLoans : GoodIn wsX1_closeWeek (wsV RX1 88 RX1 yX1_collectDueLoans wsX1_collectDueLoans) := goodIn_app (goodIn_of _ (by decide +kernel)) ggX1_closeWeek_X1_collectDueLoans
set_option maxRecDepth 20000 in
theorem ggX1_earnAll_X2_hasFault : GoodIn wsX1_earnAll wsX2_hasFault := goodIn_r _ [10, 11, 12, 13, 14, 40, 41, 42, 43, 44, 45, 46, 47, 48, 49] (by decide +kernel) (by decide +kernel)
set_option maxRecDepth 20000 in
theorem gX1_earnAll_X2_hasFault : GoodIn wsX1_earnAll (wsV RX1 91 RX2 yX2_hasFault wsX2_hasFault) := goodIn_app (goodIn_of _ (by decide +kernel)) ggX1_earnAll_X2_hasFault
set_option maxRecDepth 20000 in
theorem ggX1_earnAll_X6_earn : GoodIn wsX1_earnAll wsX6_earn := goodIn_r _ [19, 20, 21, 22, 23, 24, 25, 26, 27, 28, 35, 36, 37, 38, 39] (by decide +kernel) (by decide +kernel)
set_option maxRecDepth 20000 in
theorem gX1_earnAll_X6_earn : GoodIn wsX1_earnAll (wsV RX1 95 RX6 yX6_earn wsX6_earn) := goodIn_app (goodIn_of _ (by decide +kernel)) ggX1_earnAll_X6_earn
set_option maxRecDepth 20000 in
theorem ggX1_collectDueLoans_X1_freeOfTaker : GoodIn wsX1_collectDueLoans wsX1_freeOfTaker := goodIn_r _ [14, 15, 16, 2, 17, 23, 24, 25, 26, 27, 28, 36, 37, 38, 39, 40, 29, 30, 31, 32, 33, 34, 35] (by decide +kernel) (by decide +kernel)
set_option maxRecDepth 20000 in
theorem gX1_collectDueLoans_X1_freeOfTaker : GoodIn wsX1_collectDueLoans (wsV RX1 106 RX1 yX1_freeOfTaker wsX1_freeOfTaker) := goodIn_app (goodIn_of _ (by decide +kernel)) ggX1_collectDueLoans_X1_freeOfTaker
set_option maxRecDepth 20000 in
theorem ggX1_collectDueLoans_X1_payBack : GoodIn wsX1_collectDueLoans wsX1_payBack := goodIn_r _ [21, 2, 5, 15, 16, 17, 22, 23, 24, 25, 26, 27, 28, 29, 30, 31, 32, 33, 34, 35, 36, 37, 38, 39, 40] (by decide +kernel) (by decide +kernel)
set_option maxRecDepth 20000 in
theorem gX1_collectDueLoans_X1_payBack : GoodIn wsX1_collectDueLoans (wsV RX1 115 RX1 yX1_payBack wsX1_payBack) := goodIn_app (goodIn_of _ (by decide +kernel)) ggX1_collectDueLoans_X1_payBack
set_option maxRecDepth 20000 in
theorem ggX1_enterChange_X6_has : GoodIn wsX1_enterChange wsX6_has := goodIn_r _ [9, 10, 49, 50, 51, 52, 53] (by decide +kernel) (by decide +kernel)
set_option maxRecDepth 20000 in
theorem gX1_enterChange_X6_has : GoodIn wsX1_enterChange (wsV RX1 128 RX6 yX6_has wsX6_has) := goodIn_app (goodIn_of _ (by decide +kernel)) ggX1_enterChange_X6_has
set_option maxRecDepth 20000 in
theorem ggX1_enterChange_X8_isRisk : GoodIn wsX1_enterChange wsX8_isRisk := goodIn_r _ [13] (by decide +kernel) (by decide +kernel)
set_option maxRecDepth 20000 in
theorem gX1_enterChange_X8_isRisk_n132 : GoodIn wsX1_enterChange (wsX8_isRisk) := ggX1_enterChange_X8_isRisk
set_option maxRecDepth 20000 in
theorem ggX1_enterChange_X2_append : GoodIn wsX1_enterChange wsX2_append := goodIn_r _ [18, 19, 20, 21, 22, 23, 24, 25, 26, 27, 28, 29, 17, 30, 31, 32, 39, 40, 41, 42, 43, 44, 45, 46, 47, 48] (by decide +kernel) (by decide +kernel)
set_option maxRecDepth 20000 in
theorem gX1_enterChange_X2_append : GoodIn wsX1_enterChange (wsV RX1 136 RX2 yX2_append wsX2_append) := goodIn_app (goodIn_of _ (by decide +kernel)) ggX1_enterChange_X2_append
set_option maxRecDepth 20000 in
theorem ggX1_exemptChange_X2_has : GoodIn wsX1_exemptChange wsX2_has := goodIn_r _ [12, 13, 45, 46, 47, 48, 49, 50, 51, 52, 53, 54] (by decide +kernel) (by decide +kernel)
set_option maxRecDepth 20000 in
theorem gX1_exemptChange_X2_has : GoodIn wsX1_exemptChange (wsV RX1 138 RX2 yX2_has wsX2_has) := goodIn_app (goodIn_of _ (by decide +kernel)) ggX1_exemptChange_X2_has
set_option maxRecDepth 20000 in
theorem ggX1_exemptChange_X1_reasonAgainst : GoodIn wsX1_exemptChange wsX1_reasonAgainst := goodIn_r _ [18, 1, 7, 5, 3, 4, 2, 19, 20, 21, 17, 22, 23, 24, 25, 26, 27, 28, 29, 30, 31, 32, 33, 34, 35, 36, 37, 38, 39, 40, 41, 42, 43, 44, 45, 46, 47, 48, 49, 50, 51, 52, 53, 54, 55, 56, 57, 58, 59, 60, 61, 62, 63, 64, 65, 66] (by decide +kernel) (by decide +kernel)
set_option maxRecDepth 20000 in
theorem gX1_exemptChange_X1_reasonAgainst : GoodIn wsX1_exemptChange (wsV RX1 139 RX1 yX1_reasonAgainst wsX1_reasonAgainst) := goodIn_app (goodIn_of _ (by decide +kernel)) ggX1_exemptChange_X1_reasonAgainst
set_option maxRecDepth 20000 in
theorem ggX1_exemptChange_X1_creditsOf : GoodIn wsX1_exemptChange wsX1_creditsOf := goodIn_r _ [37, 38, 39, 40, 41, 42, 43, 44] (by decide +kernel) (by decide +kernel)
set_option maxRecDepth 20000 in
theorem gX1_exemptChange_X1_creditsOf : GoodIn wsX1_exemptChange (wsV RX1 145 RX1 yX1_creditsOf wsX1_creditsOf) := goodIn_app (goodIn_of _ (by decide +kernel)) ggX1_exemptChange_X1_creditsOf
set_option maxRecDepth 20000 in
theorem ggX1_makeChange_X2_has : GoodIn wsX1_makeChange wsX2_has := goodIn_r _ [21, 22, 48, 49, 50, 51, 52, 53, 54, 55, 56, 57] (by decide +kernel) (by decide +kernel)
set_option maxRecDepth 20000 in
theorem gX1_makeChange_X2_has : GoodIn wsX1_makeChange (wsV RX1 138 RX2 yX2_has wsX2_has) := goodIn_app (goodIn_of _ (by decide +kernel)) ggX1_makeChange_X2_has
set_option maxRecDepth 20000 in
theorem ggX1_makeChange_X2_isOpen : GoodIn wsX1_makeChange wsX2_isOpen := goodIn_r _ [26, 27, 48, 49, 50, 51, 52, 53, 54, 55, 56, 57] (by decide +kernel) (by decide +kernel)
set_option maxRecDepth 20000 in
theorem gX1_makeChange_X2_isOpen : GoodIn wsX1_makeChange (wsV RX1 157 RX2 yX2_isOpen wsX2_isOpen) := goodIn_app (goodIn_of _ (by decide +kernel)) ggX1_makeChange_X2_isOpen
set_option maxRecDepth 20000 in
theorem ggX1_makeChange_X8_asNumber : GoodIn wsX1_makeChange wsX8_asNumber := goodIn_r _ [30] (by decide +kernel) (by decide +kernel)
set_option maxRecDepth 20000 in
theorem gX1_makeChange_X8_asNumber_n166 : GoodIn wsX1_makeChange (wsX8_asNumber) := ggX1_makeChange_X8_asNumber
set_option maxRecDepth 20000 in
theorem ggX1_makeChange_X2_close : GoodIn wsX1_makeChange wsX2_close := goodIn_r _ [34, 35, 27, 36, 37, 38, 20, 39, 40, 41, 48, 49, 50, 51, 52, 53, 54, 55, 56, 57] (by decide +kernel) (by decide +kernel)
set_option maxRecDepth 20000 in
theorem gX1_makeChange_X2_close : GoodIn wsX1_makeChange (wsV RX1 170 RX2 yX2_close wsX2_close) := goodIn_app (goodIn_of _ (by decide +kernel)) ggX1_makeChange_X2_close
set_option maxRecDepth 20000 in
theorem ggX1_dropChange_X2_has : GoodIn wsX1_dropChange wsX2_has := goodIn_r _ [9, 10, 38, 39, 40, 41, 42, 43, 44, 45, 46, 47] (by decide +kernel) (by decide +kernel)
set_option maxRecDepth 20000 in
theorem gX1_dropChange_X2_has : GoodIn wsX1_dropChange (wsV RX1 138 RX2 yX2_has wsX2_has) := goodIn_app (goodIn_of _ (by decide +kernel)) ggX1_dropChange_X2_has
set_option maxRecDepth 20000 in
theorem ggX1_dropChange_X2_isOpen : GoodIn wsX1_dropChange wsX2_isOpen := goodIn_r _ [14, 15, 38, 39, 40, 41, 42, 43, 44, 45, 46, 47] (by decide +kernel) (by decide +kernel)
set_option maxRecDepth 20000 in
theorem gX1_dropChange_X2_isOpen : GoodIn wsX1_dropChange (wsV RX1 157 RX2 yX2_isOpen wsX2_isOpen) := goodIn_app (goodIn_of _ (by decide +kernel)) ggX1_dropChange_X2_isOpen
set_option maxRecDepth 20000 in
theorem ggX1_dropChange_X2_close : GoodIn wsX1_dropChange wsX2_close := goodIn_r _ [19, 20, 15, 21, 22, 23, 8, 24, 25, 26, 38, 39, 40, 41, 42, 43, 44, 45, 46, 47] (by decide +kernel) (by decide +kernel)
set_option maxRecDepth 20000 in
theorem gX1_dropChange_X2_close : GoodIn wsX1_dropChange (wsV RX1 170 RX2 yX2_close wsX2_close) := goodIn_app (goodIn_of _ (by decide +kernel)) ggX1_dropChange_X2_close
set_option maxRecDepth 20000 in
theorem ggX1_lendCredits_X6_has : GoodIn wsX1_lendCredits wsX6_has := goodIn_r _ [10, 11, 46, 47, 48, 49, 50] (by decide +kernel) (by decide +kernel)
set_option maxRecDepth 20000 in
theorem gX1_lendCredits_X6_has : GoodIn wsX1_lendCredits (wsV RX1 128 RX6 yX6_has wsX6_has) := goodIn_app (goodIn_of _ (by decide +kernel)) ggX1_lendCredits_X6_has
set_option maxRecDepth 20000 in
theorem ggX1_lendCredits_X1_owes : GoodIn wsX1_lendCredits wsX1_owes := goodIn_r _ [16, 3, 2, 17, 18, 19, 20, 21, 22, 23, 24, 25, 33, 34, 35, 36, 37, 38, 39, 40, 41, 42, 43, 44, 45] (by decide +kernel) (by decide +kernel)
set_option maxRecDepth 20000 in
theorem gX1_lendCredits_X1_owes : GoodIn wsX1_lendCredits (wsV RX1 176 RX1 yX1_owes wsX1_owes) := goodIn_app (goodIn_of _ (by decide +kernel)) ggX1_lendCredits_X1_owes
set_option maxRecDepth 20000 in
theorem ggX1_lendCredits_X5_append : GoodIn wsX1_lendCredits wsX5_append := goodIn_r _ [29, 22, 30, 23, 31, 24, 25, 32, 39, 40, 41, 42, 43, 44, 45] (by decide +kernel) (by decide +kernel)
set_option maxRecDepth 20000 in
theorem gX1_lendCredits_X5_append : GoodIn wsX1_lendCredits (wsV RX1 179 RX5 yX5_append wsX5_append) := goodIn_app (goodIn_of _ (by decide +kernel)) ggX1_lendCredits_X5_append
set_option maxRecDepth 20000 in
theorem ggX1_repayLoan_X5_has : GoodIn wsX1_repayLoan wsX5_has := goodIn_r _ [7, 8, 28, 29, 30, 31, 32, 33, 34] (by decide +kernel) (by decide +kernel)
set_option maxRecDepth 20000 in
theorem gX1_repayLoan_X5_has : GoodIn wsX1_repayLoan (wsV RX1 182 RX5 yX5_has wsX5_has) := goodIn_app (goodIn_of _ (by decide +kernel)) ggX1_repayLoan_X5_has
set_option maxRecDepth 20000 in
theorem ggX1_repayLoan_X1_freeOfTaker : GoodIn wsX1_repayLoan wsX1_freeOfTaker := goodIn_r _ [13, 14, 15, 1, 16, 22, 23, 24, 25, 26, 27, 35, 36, 37, 38, 39, 28, 29, 30, 31, 32, 33, 34] (by decide +kernel) (by decide +kernel)
set_option maxRecDepth 20000 in
theorem gX1_repayLoan_X1_freeOfTaker : GoodIn wsX1_repayLoan (wsV RX1 106 RX1 yX1_freeOfTaker wsX1_freeOfTaker) := goodIn_app (goodIn_of _ (by decide +kernel)) ggX1_repayLoan_X1_freeOfTaker
set_option maxRecDepth 20000 in
theorem ggX1_repayLoan_X1_payBack : GoodIn wsX1_repayLoan wsX1_payBack := goodIn_r _ [20, 1, 2, 14, 15, 16, 21, 22, 23, 24, 25, 26, 27, 28, 29, 30, 31, 32, 33, 34, 35, 36, 37, 38, 39] (by decide +kernel) (by decide +kernel)
set_option maxRecDepth 20000 in
theorem gX1_repayLoan_X1_payBack : GoodIn wsX1_repayLoan (wsV RX1 115 RX1 yX1_payBack wsX1_payBack) := goodIn_app (goodIn_of _ (by decide +kernel)) ggX1_repayLoan_X1_payBack
set_option maxRecDepth 20000 in
theorem ggX1_owes_X5_isOverdue : GoodIn wsX1_owes wsX5_isOverdue := goodIn_r _ [7, 8, 9, 10, 11, 18, 19, 20, 21, 22, 23, 24] (by decide +kernel) (by decide +kernel)
set_option maxRecDepth 20000 in
theorem gX1_owes_X5_isOverdue : GoodIn wsX1_owes (wsV RX1 183 RX5 yX5_isOverdue wsX5_isOverdue) := goodIn_app (goodIn_of _ (by decide +kernel)) ggX1_owes_X5_isOverdue
set_option maxRecDepth 20000 in
theorem ggX1_reasonAgainst_X1_owes : GoodIn wsX1_reasonAgainst wsX1_owes := goodIn_r _ [11, 12, 13, 14, 15, 16, 17, 18, 19, 20, 21, 22, 28, 29, 30, 31, 32, 33, 49, 50, 51, 52, 53, 54, 55] (by decide +kernel) (by decide +kernel)
set_option maxRecDepth 20000 in
theorem gX1_reasonAgainst_X1_owes : GoodIn wsX1_reasonAgainst (wsV RX1 176 RX1 yX1_owes wsX1_owes) := goodIn_app (goodIn_of _ (by decide +kernel)) ggX1_reasonAgainst_X1_owes
set_option maxRecDepth 20000 in
theorem ggX1_reasonAgainst_X1_creditsOf : GoodIn wsX1_reasonAgainst wsX1_creditsOf := goodIn_r _ [26, 27, 28, 29, 30, 31, 32, 33] (by decide +kernel) (by decide +kernel)
set_option maxRecDepth 20000 in
theorem gX1_reasonAgainst_X1_creditsOf : GoodIn wsX1_reasonAgainst (wsV RX1 145 RX1 yX1_creditsOf wsX1_creditsOf) := goodIn_app (goodIn_of _ (by decide +kernel)) ggX1_reasonAgainst_X1_creditsOf
set_option maxRecDepth 20000 in
theorem ggX1_countExemptible_X1_owes : GoodIn wsX1_countExemptible wsX1_owes := goodIn_r _ [13, 14, 15, 16, 17, 18, 19, 20, 21, 22, 23, 24, 30, 31, 32, 33, 34, 35, 51, 52, 53, 54, 55, 56, 57] (by decide +kernel) (by decide +kernel)
set_option maxRecDepth 20000 in
theorem gX1_countExemptible_X1_owes : GoodIn wsX1_countExemptible (wsV RX1 176 RX1 yX1_owes wsX1_owes) := goodIn_app (goodIn_of _ (by decide +kernel)) ggX1_countExemptible_X1_owes
set_option maxRecDepth 20000 in
theorem ggX1_countExemptible_X1_creditsOf : GoodIn wsX1_countExemptible wsX1_creditsOf := goodIn_r _ [28, 29, 30, 31, 32, 33, 34, 35] (by decide +kernel) (by decide +kernel)
set_option maxRecDepth 20000 in
theorem gX1_countExemptible_X1_creditsOf : GoodIn wsX1_countExemptible (wsV RX1 145 RX1 yX1_creditsOf wsX1_creditsOf) := goodIn_app (goodIn_of _ (by decide +kernel)) ggX1_countExemptible_X1_creditsOf
set_option maxRecDepth 20000 in
theorem ggX1_countFrozen_X8_asNumber : GoodIn wsX1_countFrozen wsX8_asNumber := goodIn_r _ [4] (by decide +kernel) (by decide +kernel)
set_option maxRecDepth 20000 in
theorem gX1_countFrozen_X8_asNumber_n166 : GoodIn wsX1_countFrozen (wsX8_asNumber) := ggX1_countFrozen_X8_asNumber
set_option maxRecDepth 20000 in
theorem ggX1_countOwing_X1_owes : GoodIn wsX1_countOwing wsX1_owes := goodIn_r _ [7, 8, 9, 10, 11, 12, 13, 14, 15, 16, 17, 18, 22, 23, 24, 25, 26, 27, 33, 34, 35, 36, 37, 38, 39] (by decide +kernel) (by decide +kernel)
set_option maxRecDepth 20000 in
theorem gX1_countOwing_X1_owes : GoodIn wsX1_countOwing (wsV RX1 176 RX1 yX1_owes wsX1_owes) := goodIn_app (goodIn_of _ (by decide +kernel)) ggX1_countOwing_X1_owes
set_option maxRecDepth 20000 in
theorem ggX1_countOwing_X8_asNumber : GoodIn wsX1_countOwing wsX8_asNumber := goodIn_r _ [21] (by decide +kernel) (by decide +kernel)
set_option maxRecDepth 20000 in
theorem gX1_countOwing_X8_asNumber_n166 : GoodIn wsX1_countOwing (wsX8_asNumber) := ggX1_countOwing_X8_asNumber
set_option maxRecDepth 20000 in
theorem ggX1_wholeFree_X8_sum : GoodIn wsX1_wholeFree wsX8_sum := goodIn_r _ [6] (by decide +kernel) (by decide +kernel)
set_option maxRecDepth 20000 in
theorem gX1_wholeFree_X8_sum_n192 : GoodIn wsX1_wholeFree (wsX8_sum) := ggX1_wholeFree_X8_sum
set_option maxRecDepth 20000 in
theorem ggX1_wholeHeld_X8_sum : GoodIn wsX1_wholeHeld wsX8_sum := goodIn_r _ [6] (by decide +kernel) (by decide +kernel)
set_option maxRecDepth 20000 in
theorem gX1_wholeHeld_X8_sum_n192 : GoodIn wsX1_wholeHeld (wsX8_sum) := ggX1_wholeHeld_X8_sum
set_option maxRecDepth 20000 in
theorem ggX1_teamValue_X2_heldOf : GoodIn wsX1_teamValue wsX2_heldOf := goodIn_r _ [12, 13, 14, 15, 63, 64, 65, 66, 67, 68, 69, 70, 71, 72] (by decide +kernel) (by decide +kernel)
set_option maxRecDepth 20000 in
theorem gX1_teamValue_X2_heldOf : GoodIn wsX1_teamValue (wsV RX1 196 RX2 yX2_heldOf wsX2_heldOf) := goodIn_app (goodIn_of _ (by decide +kernel)) ggX1_teamValue_X2_heldOf
set_option maxRecDepth 20000 in
theorem ggX1_teamValue_X2_countOf : GoodIn wsX1_teamValue wsX2_countOf := goodIn_r _ [19, 13, 14, 20, 63, 64, 65, 66, 67, 68, 69, 70, 71, 72] (by decide +kernel) (by decide +kernel)
set_option maxRecDepth 20000 in
theorem gX1_teamValue_X2_countOf : GoodIn wsX1_teamValue (wsV RX1 202 RX2 yX2_countOf wsX2_countOf) := goodIn_app (goodIn_of _ (by decide +kernel)) ggX1_teamValue_X2_countOf
set_option maxRecDepth 20000 in
theorem ggX1_teamValue_X5_leftFrom : GoodIn wsX1_teamValue wsX5_leftFrom := goodIn_r _ [25, 26, 27, 28, 73, 74, 75, 76, 77, 78, 79] (by decide +kernel) (by decide +kernel)
set_option maxRecDepth 20000 in
theorem gX1_teamValue_X5_leftFrom : GoodIn wsX1_teamValue (wsV RX1 205 RX5 yX5_leftFrom wsX5_leftFrom) := goodIn_app (goodIn_of _ (by decide +kernel)) ggX1_teamValue_X5_leftFrom
set_option maxRecDepth 20000 in
theorem ggX1_teamValue_X5_leftTo : GoodIn wsX1_teamValue wsX5_leftTo := goodIn_r _ [32, 26, 33, 28, 73, 74, 75, 76, 77, 78, 79] (by decide +kernel) (by decide +kernel)
set_option maxRecDepth 20000 in
theorem gX1_teamValue_X5_leftTo : GoodIn wsX1_teamValue (wsV RX1 208 RX5 yX5_leftTo wsX5_leftTo) := goodIn_app (goodIn_of _ (by decide +kernel)) ggX1_teamValue_X5_leftTo
set_option maxRecDepth 20000 in
theorem ggX1_teamValue_X1_owes : GoodIn wsX1_teamValue wsX1_owes := goodIn_r _ [38, 6, 7, 39, 40, 41, 24, 42, 26, 33, 28, 43, 52, 53, 54, 55, 56, 57, 73, 74, 75, 76, 77, 78, 79] (by decide +kernel) (by decide +kernel)
set_option maxRecDepth 20000 in
theorem gX1_teamValue_X1_owes : GoodIn wsX1_teamValue (wsV RX1 176 RX1 yX1_owes wsX1_owes) := goodIn_app (goodIn_of _ (by decide +kernel)) ggX1_teamValue_X1_owes
set_option maxRecDepth 20000 in
theorem ggX1_teamValue_X8_asNumber : GoodIn wsX1_teamValue wsX8_asNumber := goodIn_r _ [46] (by decide +kernel) (by decide +kernel)
set_option maxRecDepth 20000 in
theorem gX1_teamValue_X8_asNumber_n166 : GoodIn wsX1_teamValue (wsX8_asNumber) := ggX1_teamValue_X8_asNumber
set_option maxRecDepth 20000 in
theorem ggX1_teamValue_X2_hasFault : GoodIn wsX1_teamValue wsX2_hasFault := goodIn_r _ [50, 13, 14, 20, 51, 63, 64, 65, 66, 67, 68, 69, 70, 71, 72] (by decide +kernel) (by decide +kernel)
set_option maxRecDepth 20000 in
theorem gX1_teamValue_X2_hasFault : GoodIn wsX1_teamValue (wsV RX1 91 RX2 yX2_hasFault wsX2_hasFault) := goodIn_app (goodIn_of _ (by decide +kernel)) ggX1_teamValue_X2_hasFault
set_option maxRecDepth 20000 in
theorem ggX1_valueOfAll_X5_countOpen : GoodIn wsX1_valueOfAll wsX5_countOpen := goodIn_r _ [16, 17, 18, 82, 83, 84, 85, 86, 87, 88] (by decide +kernel) (by decide +kernel)
set_option maxRecDepth 20000 in
theorem gX1_valueOfAll_X5_countOpen : GoodIn wsX1_valueOfAll (wsV RX1 211 RX5 yX5_countOpen wsX5_countOpen) := goodIn_app (goodIn_of _ (by decide +kernel)) ggX1_valueOfAll_X5_countOpen
set_option maxRecDepth 20000 in
theorem ggX1_valueOfAll_X1_countFrozen : GoodIn wsX1_valueOfAll wsX1_countFrozen := goodIn_r _ [23, 24, 25, 26, 27, 61, 62, 63, 64, 65, 66] (by decide +kernel) (by decide +kernel)
set_option maxRecDepth 20000 in
theorem gX1_valueOfAll_X1_countFrozen : GoodIn wsX1_valueOfAll (wsV RX1 75 RX1 yX1_countFrozen wsX1_countFrozen) := goodIn_app (goodIn_of _ (by decide +kernel)) ggX1_valueOfAll_X1_countFrozen
set_option maxRecDepth 20000 in
theorem ggX1_valueOfAll_X1_wholeFree : GoodIn wsX1_valueOfAll wsX1_wholeFree := goodIn_r _ [31, 1, 32, 2, 33, 26, 34, 61, 62, 63, 64, 65, 66, 67, 68, 69, 70, 71] (by decide +kernel) (by decide +kernel)
set_option maxRecDepth 20000 in
theorem gX1_valueOfAll_X1_wholeFree : GoodIn wsX1_valueOfAll (wsV RX1 214 RX1 yX1_wholeFree wsX1_wholeFree) := goodIn_app (goodIn_of _ (by decide +kernel)) ggX1_valueOfAll_X1_wholeFree
set_option maxRecDepth 20000 in
theorem ggX1_valueOfAll_X1_wholeHeld : GoodIn wsX1_valueOfAll wsX1_wholeHeld := goodIn_r _ [38, 3, 39, 4, 33, 26, 34, 61, 62, 63, 64, 65, 66, 72, 73, 74, 75, 76, 77, 78, 79, 80, 81] (by decide +kernel) (by decide +kernel)
set_option maxRecDepth 20000 in
theorem gX1_valueOfAll_X1_wholeHeld : GoodIn wsX1_valueOfAll (wsV RX1 217 RX1 yX1_wholeHeld wsX1_wholeHeld) := goodIn_app (goodIn_of _ (by decide +kernel)) ggX1_valueOfAll_X1_wholeHeld
set_option maxRecDepth 20000 in
theorem ggX1_valueOfAll_X8_sum : GoodIn wsX1_valueOfAll wsX8_sum := goodIn_r _ [34] (by decide +kernel) (by decide +kernel)
set_option maxRecDepth 20000 in
theorem gX1_valueOfAll_X8_sum_n192 : GoodIn wsX1_valueOfAll (wsX8_sum) := ggX1_valueOfAll_X8_sum
set_option maxRecDepth 20000 in
theorem ggX1_valueOfAll_X2_countIn : GoodIn wsX1_valueOfAll wsX2_countIn := goodIn_r _ [44, 45, 46, 72, 73, 74, 75, 76, 77, 78, 79, 80, 81] (by decide +kernel) (by decide +kernel)
set_option maxRecDepth 20000 in
theorem gX1_valueOfAll_X2_countIn : GoodIn wsX1_valueOfAll (wsV RX1 223 RX2 yX2_countIn wsX2_countIn) := goodIn_app (goodIn_of _ (by decide +kernel)) ggX1_valueOfAll_X2_countIn
set_option maxRecDepth 20000 in
theorem ggX1_valueOfAll_X1_countOwing : GoodIn wsX1_valueOfAll wsX1_countOwing := goodIn_r _ [50, 1, 2, 51, 52, 53, 22, 54, 5, 8, 55, 56, 57, 15, 58, 17, 59, 18, 60, 25, 26, 27, 61, 62, 63, 64, 65, 66, 67, 68, 69, 70, 71, 82, 83, 84, 85, 86, 87, 88] (by decide +kernel) (by decide +kernel)
set_option maxRecDepth 20000 in
theorem gX1_valueOfAll_X1_countOwing : GoodIn wsX1_valueOfAll (wsV RX1 226 RX1 yX1_countOwing wsX1_countOwing) := goodIn_app (goodIn_of _ (by decide +kernel)) ggX1_valueOfAll_X1_countOwing
set_option maxRecDepth 20000 in
theorem ggX2_append_X2_enqueue : GoodIn wsX2_append wsX2_enqueue := goodIn_r _ [13, 14, 3, 15, 16, 17, 18, 19, 20, 21, 22, 23, 24, 25] (by decide +kernel) (by decide +kernel)
set_option maxRecDepth 20000 in
theorem gX2_append_X2_enqueue : GoodIn wsX2_append (wsV RX2 49 RX2 yX2_enqueue wsX2_enqueue) := goodIn_app (goodIn_of _ (by decide +kernel)) ggX2_append_X2_enqueue
set_option maxRecDepth 20000 in
theorem ggX2_close_X2_dequeue : GoodIn wsX2_close wsX2_dequeue := goodIn_r _ [7, 8, 9, 10, 11, 12, 13, 14, 15, 16, 17, 18, 19] (by decide +kernel) (by decide +kernel)
set_option maxRecDepth 20000 in
theorem gX2_close_X2_dequeue : GoodIn wsX2_close (wsV RX2 53 RX2 yX2_dequeue wsX2_dequeue) := goodIn_app (goodIn_of _ (by decide +kernel)) ggX2_close_X2_dequeue
set_option maxRecDepth 20000 in
theorem ggX3_hasMore_X3_skipSpaces : GoodIn wsX3_hasMore wsX3_skipSpaces := goodIn_r _ [7, 1, 2, 8, 9, 10, 11, 12, 13] (by decide +kernel) (by decide +kernel)
set_option maxRecDepth 20000 in
theorem gX3_hasMore_X3_skipSpaces : GoodIn wsX3_hasMore (wsV RX3 26 RX3 yX3_skipSpaces wsX3_skipSpaces) := goodIn_app (goodIn_of _ (by decide +kernel)) ggX3_hasMore_X3_skipSpaces
set_option maxRecDepth 20000 in
theorem ggX3_findFault_X3_rewind : GoodIn wsX3_findFault wsX3_rewind := goodIn_r _ [5, 6, 98, 99, 100, 101, 102] (by decide +kernel) (by decide +kernel)
set_option maxRecDepth 20000 in
theorem gX3_findFault_X3_rewind : GoodIn wsX3_findFault (wsV RX3 29 RX3 yX3_rewind wsX3_rewind) := goodIn_app (goodIn_of _ (by decide +kernel)) ggX3_findFault_X3_rewind
set_option maxRecDepth 20000 in
theorem ggX3_findFault_X3_hasMore : GoodIn wsX3_findFault wsX3_hasMore := goodIn_r _ [10, 6, 11, 12, 13, 14, 4, 15, 16, 98, 99, 100, 101, 102] (by decide +kernel) (by decide +kernel)
set_option maxRecDepth 20000 in
theorem gX3_findFault_X3_hasMore : GoodIn wsX3_findFault (wsV RX3 32 RX3 yX3_hasMore wsX3_hasMore) := goodIn_app (goodIn_of _ (by decide +kernel)) ggX3_findFault_X3_hasMore
set_option maxRecDepth 20000 in
theorem ggX3_findFault_X3_readCommand : GoodIn wsX3_findFault wsX3_readCommand := goodIn_r _ [20, 6, 21, 22, 23, 24, 25, 4, 26, 11, 16, 27, 28, 29, 30, 31, 32, 33, 34, 35, 36, 37, 38, 39, 40, 41, 42, 43, 44, 45, 46, 47, 48, 49, 50, 51, 52, 53, 54, 55, 56, 57, 58, 59, 60, 61, 62, 63, 64, 65, 66, 67, 68, 69, 70, 71, 72, 73, 74, 75, 76, 77, 78, 79, 80, 81, 82, 83, 84, 85, 86, 87, 88, 89, 90, 91, 92, 93, 94, 12, 13, 14, 15, 95, 96, 97, 98, 99, 100, 101, 102] (by decide +kernel) (by decide +kernel)
set_option maxRecDepth 20000 in
theorem gX3_findFault_X3_readCommand : GoodIn wsX3_findFault (wsV RX3 36 RX3 yX3_readCommand wsX3_readCommand) := goodIn_app (goodIn_of _ (by decide +kernel)) ggX3_findFault_X3_readCommand
set_option maxRecDepth 20000 in
theorem ggX3_readCommand_X3_skipLetters : GoodIn wsX3_readCommand wsX3_skipLetters := goodIn_r _ [8, 1, 9, 10, 86, 87, 88, 89, 90] (by decide +kernel) (by decide +kernel)
set_option maxRecDepth 20000 in
theorem gX3_readCommand_X3_skipLetters : GoodIn wsX3_readCommand (wsV RX3 40 RX3 yX3_skipLetters wsX3_skipLetters) := goodIn_app (goodIn_of _ (by decide +kernel)) ggX3_readCommand_X3_skipLetters
set_option maxRecDepth 20000 in
theorem ggX3_readCommand_X3_findVerb : GoodIn wsX3_readCommand wsX3_findVerb := goodIn_r _ [14, 15, 16, 17, 18, 19, 7, 20, 10, 21, 22, 23, 24, 25, 26, 27, 28, 29, 30, 31, 32, 33, 34, 35, 36, 37, 38, 39, 40, 41, 42, 43, 44, 45, 46, 47, 48, 49, 50, 51, 52, 53, 54, 55, 56, 57, 58, 59, 60, 61, 62, 63, 64, 65, 66, 67, 68, 69, 86, 87, 88, 89, 90] (by decide +kernel) (by decide +kernel)
set_option maxRecDepth 20000 in
theorem gX3_readCommand_X3_findVerb : GoodIn wsX3_readCommand (wsV RX3 43 RX3 yX3_findVerb wsX3_findVerb) := goodIn_app (goodIn_of _ (by decide +kernel)) ggX3_readCommand_X3_findVerb
set_option maxRecDepth 20000 in
theorem ggX3_readCommand_X3_readNumber : GoodIn wsX3_readCommand wsX3_readNumber := goodIn_r _ [73, 1, 74, 75, 76, 77, 7, 78, 9, 10, 79, 80, 81, 82, 83, 84, 85, 86, 87, 88, 89, 90] (by decide +kernel) (by decide +kernel)
set_option maxRecDepth 20000 in
theorem gX3_readCommand_X3_readNumber : GoodIn wsX3_readCommand (wsV RX3 55 RX3 yX3_readNumber wsX3_readNumber) := goodIn_app (goodIn_of _ (by decide +kernel)) ggX3_readCommand_X3_readNumber
set_option maxRecDepth 20000 in
theorem ggX3_readCommand_X3_skipSpaces : GoodIn wsX3_readCommand wsX3_skipSpaces := goodIn_r _ [82, 1, 9, 10, 86, 87, 88, 89, 90] (by decide +kernel) (by decide +kernel)
set_option maxRecDepth 20000 in
theorem gX3_readCommand_X3_skipSpaces : GoodIn wsX3_readCommand (wsV RX3 26 RX3 yX3_skipSpaces wsX3_skipSpaces) := goodIn_app (goodIn_of _ (by decide +kernel)) ggX3_readCommand_X3_skipSpaces
set_option maxRecDepth 20000 in
theorem ggX3_readCommand_X3_next : GoodIn wsX3_readCommand wsX3_next := goodIn_r _ [78, 1, 9, 10, 86, 87, 88, 89, 90] (by decide +kernel) (by decide +kernel)
set_option maxRecDepth 20000 in
theorem gX3_readCommand_X3_next : GoodIn wsX3_readCommand (wsV RX3 59 RX3 yX3_next wsX3_next) := goodIn_app (goodIn_of _ (by decide +kernel)) ggX3_readCommand_X3_next
set_option maxRecDepth 20000 in
theorem ggX3_readNumber_X3_next : GoodIn wsX3_readNumber wsX3_next := goodIn_r _ [7, 1, 8, 9, 17, 18, 19, 20, 21] (by decide +kernel) (by decide +kernel)
set_option maxRecDepth 20000 in
theorem gX3_readNumber_X3_next : GoodIn wsX3_readNumber (wsV RX3 59 RX3 yX3_next wsX3_next) := goodIn_app (goodIn_of _ (by decide +kernel)) ggX3_readNumber_X3_next
set_option maxRecDepth 20000 in
theorem ggX3_readNumber_X3_skipSpaces : GoodIn wsX3_readNumber wsX3_skipSpaces := goodIn_r _ [13, 1, 8, 9, 17, 18, 19, 20, 21] (by decide +kernel) (by decide +kernel)
set_option maxRecDepth 20000 in
theorem gX3_readNumber_X3_skipSpaces : GoodIn wsX3_readNumber (wsV RX3 26 RX3 yX3_skipSpaces wsX3_skipSpaces) := goodIn_app (goodIn_of _ (by decide +kernel)) ggX3_readNumber_X3_skipSpaces
set_option maxRecDepth 20000 in
theorem ggX3_readNumber_X3_isDigit : GoodIn wsX3_readNumber wsX3_isDigit := goodIn_r _ [16] (by decide +kernel) (by decide +kernel)
set_option maxRecDepth 20000 in
theorem gX3_readNumber_X3_isDigit : GoodIn wsX3_readNumber (va_wsS RX3 62 yX3_isDigit wsX3_isDigit) := goodIn_app (goodIn_of _ (by decide +kernel)) ggX3_readNumber_X3_isDigit
set_option maxRecDepth 20000 in
theorem ggX3_findVerb_X3_stands : GoodIn wsX3_findVerb wsX3_stands := goodIn_r _ [7, 8, 9, 10, 11, 12, 13, 14, 15, 16, 17, 18, 19, 20, 21, 22, 23, 24, 25, 26, 27, 28, 29, 30, 31, 32, 33, 34, 35, 36, 37, 38, 39, 40, 41, 42, 43, 44, 45, 46, 47, 48, 49, 50, 51, 52, 53, 54, 55, 56, 57, 58, 59, 60, 61, 62] (by decide +kernel) (by decide +kernel)
set_option maxRecDepth 20000 in
theorem gX3_findVerb_X3_stands : GoodIn wsX3_findVerb (wsV RX3 73 RX3 yX3_stands wsX3_stands) := goodIn_app (goodIn_of _ (by decide +kernel)) ggX3_findVerb_X3_stands
set_option maxRecDepth 20000 in
theorem ggX3_stands_J0_length_8abf5 : GoodIn wsX3_stands wsJ0_length_8abf5 := goodIn_r _ [6, 7, 8, 9, 10, 5, 11, 12, 13] (by decide +kernel) (by decide +kernel)
set_option maxRecDepth 20000 in
theorem gX3_stands_J0_length_8abf5 : GoodIn wsX3_stands (wsV RX3 77 RJ0 yJ0_length_8abf5 wsJ0_length_8abf5) := goodIn_app (goodIn_of _ (by decide +kernel)) ggX3_stands_J0_length_8abf5
set_option maxRecDepth 20000 in
theorem ggX3_stands_J0_charAt_5068e : GoodIn wsX3_stands wsJ0_charAt_5068e := goodIn_r _ [17, 7, 18, 19, 20, 5, 21, 12, 13, 22, 23, 24, 25, 26, 27, 28, 29, 30, 31, 32, 33, 34, 35, 36, 37, 38, 39, 40, 41, 42, 43, 44, 45, 46, 47, 48, 49, 50] (by decide +kernel) (by decide +kernel)
set_option maxRecDepth 20000 in
theorem gX3_stands_J0_charAt_5068e : GoodIn wsX3_stands (wsV RX3 81 RJ0 yJ0_charAt_5068e wsJ0_charAt_5068e) := goodIn_app (goodIn_of _ (by decide +kernel)) ggX3_stands_J0_charAt_5068e
set_option maxRecDepth 20000 in
theorem ggX4_init_X1_init : GoodIn wsX4_init wsX1_init := goodIn_r _ [9, 10, 2, 3, 11, 12, 13, 14, 15, 16, 17, 18, 19, 20, 21, 22, 23, 24, 25, 26, 27, 28, 29, 30, 31, 32, 33, 34, 35, 36, 37, 38, 39, 40, 41, 42, 43, 44, 45, 46, 47, 48, 49, 50, 51, 52, 53, 54, 55, 56, 57, 58, 59, 62, 63, 64, 65, 66, 67, 68, 69, 70, 71, 72, 73, 74, 75, 76, 77, 78, 79, 80, 81, 82, 83, 84, 85, 86, 87, 88, 89] (by decide +kernel) (by decide +kernel)
set_option maxRecDepth 20000 in
theorem gX4_init_X1_init_n17 : GoodIn wsX4_init (wsX1_init) := ggX4_init_X1_init
set_option maxRecDepth 20000 in
theorem ggX4_prepare_X1_copyFrom : GoodIn wsX4_prepare wsX1_copyFrom := goodIn_r _ [7, 8, 9, 10, 11, 12, 13, 14, 15, 16, 17, 18, 19, 20, 21, 22, 23, 24, 25, 26, 27, 28, 29, 30, 31, 32, 33, 34, 35, 36, 37, 38, 39, 40, 41, 42, 43, 44, 45, 46, 47, 48, 49, 50, 51, 52, 53, 54, 55, 56, 57, 60, 61, 62, 63, 64, 65, 66, 67, 68, 69, 70, 71, 72, 73, 74, 75, 76, 77, 78, 79, 80, 81, 82, 83, 84, 85, 86, 87] (by decide +kernel) (by decide +kernel)
set_option maxRecDepth 20000 in
theorem gX4_prepare_X1_copyFrom : GoodIn wsX4_prepare (wsV RX4 22 RX1 yX1_copyFrom wsX1_copyFrom) := goodIn_app (goodIn_of _ (by decide +kernel)) ggX4_prepare_X1_copyFrom
set_option maxRecDepth 20000 in
theorem ggX4_restore_X1_copyFrom : GoodIn wsX4_restore wsX1_copyFrom := goodIn_r _ [7, 8, 9, 10, 11, 12, 13, 14, 15, 16, 17, 18, 19, 20, 21, 22, 23, 24, 25, 26, 27, 28, 29, 30, 31, 32, 33, 34, 35, 36, 37, 38, 39, 40, 41, 42, 43, 44, 45, 46, 47, 48, 49, 50, 51, 52, 53, 54, 55, 56, 57, 60, 61, 62, 63, 64, 65, 66, 67, 68, 69, 70, 71, 72, 73, 74, 75, 76, 77, 78, 79, 80, 81, 82, 83, 84, 85, 86, 87] (by decide +kernel) (by decide +kernel)
set_option maxRecDepth 20000 in
theorem gX4_restore_X1_copyFrom : GoodIn wsX4_restore (wsV RX4 22 RX1 yX1_copyFrom wsX1_copyFrom) := goodIn_app (goodIn_of _ (by decide +kernel)) ggX4_restore_X1_copyFrom
set_option maxRecDepth 20000 in
theorem ggX8_init_X1_init : GoodIn wsX8_init wsX1_init := goodIn_r _ [18, 19, 2, 3, 20, 21, 22, 23, 24, 25, 26, 27, 28, 29, 30, 31, 32, 33, 34, 35, 36, 37, 38, 39, 40, 41, 42, 43, 44, 45, 46, 47, 48, 49, 50, 51, 52, 53, 54, 55, 56, 57, 58, 59, 60, 61, 62, 63, 64, 65, 66, 67, 68, 81, 82, 83, 84, 85, 86, 98, 99, 100, 101, 102, 103, 104, 105, 106, 107, 108, 109, 110, 111, 112, 113, 114, 115, 116, 117, 118, 119] (by decide +kernel) (by decide +kernel)
set_option maxRecDepth 20000 in
theorem gX8_init_X1_init_n11 : GoodIn wsX8_init (wsX1_init) := ggX8_init_X1_init
set_option maxRecDepth 20000 in
theorem ggX8_init_X4_init : GoodIn wsX8_init wsX4_init := goodIn_r _ [71, 72, 2, 3, 73, 74, 5, 6, 17, 18, 19, 20, 21, 22, 23, 24, 25, 26, 27, 28, 29, 30, 31, 32, 33, 34, 35, 36, 37, 38, 39, 40, 41, 42, 43, 44, 45, 46, 47, 48, 49, 50, 51, 52, 53, 54, 55, 56, 57, 58, 59, 60, 61, 62, 63, 64, 65, 66, 67, 68, 91, 92, 81, 82, 83, 84, 85, 86, 98, 99, 100, 101, 102, 103, 104, 105, 106, 107, 108, 109, 110, 111, 112, 113, 114, 115, 116, 117, 118, 119] (by decide +kernel) (by decide +kernel)
set_option maxRecDepth 20000 in
theorem gX8_init_X4_init : GoodIn wsX8_init (wsX4_init) := ggX8_init_X4_init
set_option maxRecDepth 20000 in
theorem ggX8_init_X3_init : GoodIn wsX8_init wsX3_init := goodIn_r _ [76, 77, 2, 3, 44, 78, 79, 80, 93, 94, 95, 96, 97] (by decide +kernel) (by decide +kernel)
set_option maxRecDepth 20000 in
theorem gX8_init_X3_init_n28 : GoodIn wsX8_init (wsX3_init) := ggX8_init_X3_init
set_option maxRecDepth 20000 in
theorem ggX8_addTeam_X4_prepare : GoodIn wsX8_addTeam wsX4_prepare := goodIn_r _ [7, 8, 9, 10, 11, 12, 13, 14, 15, 16, 17, 18, 19, 20, 21, 22, 23, 24, 25, 26, 27, 28, 29, 30, 31, 32, 33, 34, 35, 36, 37, 38, 39, 40, 41, 42, 43, 44, 45, 46, 47, 48, 49, 50, 51, 52, 53, 54, 55, 56, 57, 58, 59, 60, 61, 62, 63, 64, 93, 94, 95, 96, 97, 98, 99, 100, 101, 102, 103, 104, 105, 106, 107, 108, 109, 110, 111, 112, 113, 114, 115, 116, 117, 118, 119, 120, 121, 122] (by decide +kernel) (by decide +kernel)
set_option maxRecDepth 20000 in
theorem gX8_addTeam_X4_prepare : GoodIn wsX8_addTeam (wsV RX8 33 RX4 yX4_prepare wsX4_prepare) := goodIn_app (goodIn_of _ (by decide +kernel)) ggX8_addTeam_X4_prepare
set_option maxRecDepth 20000 in
theorem ggX8_addTeam_X1_bringTeam : GoodIn wsX8_addTeam wsX1_bringTeam := goodIn_r _ [68, 22, 69, 70, 71, 72, 28, 73, 30, 31, 33, 34, 35, 95, 96, 97, 98, 99, 100, 101, 102, 103, 104, 105] (by decide +kernel) (by decide +kernel)
set_option maxRecDepth 20000 in
theorem gX8_addTeam_X1_bringTeam : GoodIn wsX8_addTeam (wsV RX8 37 RX1 yX1_bringTeam wsX1_bringTeam) := goodIn_app (goodIn_of _ (by decide +kernel)) ggX8_addTeam_X1_bringTeam
set_option maxRecDepth 20000 in
theorem ggX8_addTeam_X8_settle : GoodIn wsX8_addTeam wsX8_settle := goodIn_ca (goodIn_ca (goodIn_ca (goodIn_r _ [78, 79, 80, 81, 82, 83, 84, 1, 85, 86, 87, 6, 88, 9, 8, 89, 90, 91, 92, 93, 94] (by decide +kernel) (by decide +kernel)) (goodIn_sub (fun _ h => List.mem_cons_of_mem _ (List.mem_append_left _ (List.mem_append_left _ (List.mem_append_right _ h)))) (by decide +kernel))) (goodIn_sub (fun _ h => List.mem_cons_of_mem _ (List.mem_append_left _ (List.mem_append_right _ h))) (by decide +kernel))) (goodIn_sub (fun _ h => List.mem_cons_of_mem _ (List.mem_append_right _ h)) (by decide +kernel))
set_option maxRecDepth 20000 in
theorem gX8_addTeam_X8_settle : GoodIn wsX8_addTeam (wsV RX8 41 RX8 yX8_settle wsX8_settle) := goodIn_app (goodIn_of _ (by decide +kernel)) ggX8_addTeam_X8_settle
set_option maxRecDepth 20000 in
theorem ggX8_freeze_X4_prepare : GoodIn wsX8_freeze wsX4_prepare := goodIn_r _ [7, 8, 9, 10, 11, 12, 13, 14, 15, 16, 17, 18, 19, 20, 21, 22, 23, 24, 25, 26, 27, 28, 29, 30, 31, 32, 33, 34, 35, 36, 37, 38, 39, 40, 41, 42, 43, 44, 45, 46, 47, 48, 49, 50, 51, 52, 53, 54, 55, 56, 57, 58, 59, 60, 61, 62, 63, 64, 94, 95, 96, 97, 98, 99, 100, 101, 102, 103, 104, 105, 106, 107, 108, 109, 110, 111, 112, 113, 114, 115, 116, 117, 118, 119, 120, 121, 122, 123] (by decide +kernel) (by decide +kernel)
set_option maxRecDepth 20000 in
theorem gX8_freeze_X4_prepare : GoodIn wsX8_freeze (wsV RX8 33 RX4 yX4_prepare wsX4_prepare) := goodIn_app (goodIn_of _ (by decide +kernel)) ggX8_freeze_X4_prepare
set_option maxRecDepth 20000 in
theorem ggX8_freeze_X1_markWeeks : GoodIn wsX8_freeze wsX1_markWeeks := goodIn_r _ [68, 15, 21, 69, 70, 71, 13, 72, 73, 74, 75, 96, 97, 98, 99, 100, 101] (by decide +kernel) (by decide +kernel)
set_option maxRecDepth 20000 in
theorem gX8_freeze_X1_markWeeks : GoodIn wsX8_freeze (wsV RX8 44 RX1 yX1_markWeeks wsX1_markWeeks) := goodIn_app (goodIn_of _ (by decide +kernel)) ggX8_freeze_X1_markWeeks
set_option maxRecDepth 20000 in
theorem ggX8_freeze_X8_settle : GoodIn wsX8_freeze wsX8_settle := goodIn_ca (goodIn_ca (goodIn_ca (goodIn_r _ [79, 80, 81, 82, 83, 84, 85, 1, 86, 87, 88, 6, 89, 9, 8, 90, 91, 92, 93, 94, 95] (by decide +kernel) (by decide +kernel)) (goodIn_sub (fun _ h => List.mem_cons_of_mem _ (List.mem_append_left _ (List.mem_append_left _ (List.mem_append_right _ h)))) (by decide +kernel))) (goodIn_sub (fun _ h => List.mem_cons_of_mem _ (List.mem_append_left _ (List.mem_append_right _ h))) (by decide +kernel))) (goodIn_sub (fun _ h => List.mem_cons_of_mem _ (List.mem_append_right _ h)) (by decide +kernel))
set_option maxRecDepth 20000 in
theorem gX8_freeze_X8_settle : GoodIn wsX8_freeze (wsV RX8 41 RX8 yX8_settle wsX8_settle) := goodIn_app (goodIn_of _ (by decide +kernel)) ggX8_freeze_X8_settle
set_option maxRecDepth 20000 in
theorem ggX8_set_X4_prepare : GoodIn wsX8_set wsX4_prepare := goodIn_r _ [7, 8, 9, 10, 11, 12, 13, 14, 15, 16, 17, 18, 19, 20, 21, 22, 23, 24, 25, 26, 27, 28, 29, 30, 31, 32, 33, 34, 35, 36, 37, 38, 39, 40, 41, 42, 43, 44, 45, 46, 47, 48, 49, 50, 51, 52, 53, 54, 55, 56, 57, 58, 59, 60, 61, 62, 63, 64, 88, 89, 90, 91, 92, 93, 94, 95, 96, 97, 98, 99, 100, 101, 102, 103, 104, 105, 106, 107, 108, 109, 110, 111, 112, 113, 114, 115, 116, 117] (by decide +kernel) (by decide +kernel)
set_option maxRecDepth 20000 in
theorem gX8_set_X4_prepare : GoodIn wsX8_set (wsV RX8 33 RX4 yX4_prepare wsX4_prepare) := goodIn_app (goodIn_of _ (by decide +kernel)) ggX8_set_X4_prepare
set_option maxRecDepth 20000 in
theorem ggX8_set_X1_changeSetting : GoodIn wsX8_set wsX1_changeSetting := goodIn_r _ [68, 16, 90, 91, 92, 93, 94, 95] (by decide +kernel) (by decide +kernel)
set_option maxRecDepth 20000 in
theorem gX8_set_X1_changeSetting : GoodIn wsX8_set (wsV RX8 48 RX1 yX1_changeSetting wsX1_changeSetting) := goodIn_app (goodIn_of _ (by decide +kernel)) ggX8_set_X1_changeSetting
set_option maxRecDepth 20000 in
theorem ggX8_set_X8_settle : GoodIn wsX8_set wsX8_settle := goodIn_ca (goodIn_ca (goodIn_ca (goodIn_r _ [73, 74, 75, 76, 77, 78, 79, 1, 80, 81, 82, 6, 83, 9, 8, 84, 85, 86, 87, 88, 89] (by decide +kernel) (by decide +kernel)) (goodIn_sub (fun _ h => List.mem_cons_of_mem _ (List.mem_append_left _ (List.mem_append_left _ (List.mem_append_right _ h)))) (by decide +kernel))) (goodIn_sub (fun _ h => List.mem_cons_of_mem _ (List.mem_append_left _ (List.mem_append_right _ h))) (by decide +kernel))) (goodIn_sub (fun _ h => List.mem_cons_of_mem _ (List.mem_append_right _ h)) (by decide +kernel))
set_option maxRecDepth 20000 in
theorem gX8_set_X8_settle : GoodIn wsX8_set (wsV RX8 41 RX8 yX8_settle wsX8_settle) := goodIn_app (goodIn_of _ (by decide +kernel)) ggX8_set_X8_settle
set_option maxRecDepth 20000 in
theorem ggX8_endWeek_X4_prepare : GoodIn wsX8_endWeek wsX4_prepare := goodIn_r _ [7, 8, 9, 10, 11, 12, 13, 14, 15, 16, 17, 18, 19, 20, 21, 22, 23, 24, 25, 26, 27, 28, 29, 30, 31, 32, 33, 34, 35, 36, 37, 38, 39, 40, 41, 42, 43, 44, 45, 46, 47, 48, 49, 50, 51, 52, 53, 54, 55, 56, 57, 58, 59, 60, 61, 62, 63, 64, 127, 128, 129, 130, 131, 132, 133, 134, 135, 136, 137, 138, 139, 140, 141, 142, 143, 144, 145, 146, 147, 148, 149, 150, 151, 152, 153, 154, 155, 156] (by decide +kernel) (by decide +kernel)
set_option maxRecDepth 20000 in
theorem gX8_endWeek_X4_prepare : GoodIn wsX8_endWeek (wsV RX8 33 RX4 yX4_prepare wsX4_prepare) := goodIn_app (goodIn_of _ (by decide +kernel)) ggX8_endWeek_X4_prepare
set_option maxRecDepth 20000 in
theorem ggX8_endWeek_X1_closeWeek : GoodIn wsX8_endWeek wsX1_closeWeek := goodIn_r _ [68, 15, 69, 70, 71, 13, 72, 22, 73, 23, 16, 74, 75, 76, 39, 77, 41, 43, 46, 49, 78, 79, 80, 28, 81, 31, 82, 83, 84, 85, 86, 87, 88, 34, 89, 90, 91, 92, 24, 93, 94, 95, 96, 97, 98, 99, 100, 101, 102, 103, 104, 105, 106, 107, 129, 130, 131, 132, 133, 134, 135, 136, 137, 138, 139, 140, 141, 142, 143, 144, 145, 146, 147, 148, 149, 150, 151, 152, 153, 154, 155, 156] (by decide +kernel) (by decide +kernel)
set_option maxRecDepth 20000 in
theorem gX8_endWeek_X1_closeWeek : GoodIn wsX8_endWeek (wsV RX8 52 RX1 yX1_closeWeek wsX1_closeWeek) := goodIn_app (goodIn_of _ (by decide +kernel)) ggX8_endWeek_X1_closeWeek
set_option maxRecDepth 20000 in
theorem ggX8_endWeek_X8_settle : GoodIn wsX8_endWeek wsX8_settle := goodIn_ca (goodIn_ca (goodIn_ca (goodIn_r _ [112, 113, 114, 115, 116, 117, 118, 1, 119, 120, 121, 6, 122, 9, 8, 123, 124, 125, 126, 127, 128] (by decide +kernel) (by decide +kernel)) (goodIn_sub (fun _ h => List.mem_cons_of_mem _ (List.mem_append_left _ (List.mem_append_left _ (List.mem_append_right _ h)))) (by decide +kernel))) (goodIn_sub (fun _ h => List.mem_cons_of_mem _ (List.mem_append_left _ (List.mem_append_right _ h))) (by decide +kernel))) (goodIn_sub (fun _ h => List.mem_cons_of_mem _ (List.mem_append_right _ h)) (by decide +kernel))
set_option maxRecDepth 20000 in
theorem gX8_endWeek_X8_settle : GoodIn wsX8_endWeek (wsV RX8 41 RX8 yX8_settle wsX8_settle) := goodIn_app (goodIn_of _ (by decide +kernel)) ggX8_endWeek_X8_settle
set_option maxRecDepth 20000 in
theorem ggX8_ask_X4_prepare : GoodIn wsX8_ask wsX4_prepare := goodIn_r _ [7, 8, 9, 10, 11, 12, 13, 14, 15, 16, 17, 18, 19, 20, 21, 22, 23, 24, 25, 26, 27, 28, 29, 30, 31, 32, 33, 34, 35, 36, 37, 38, 39, 40, 41, 42, 43, 44, 45, 46, 47, 48, 49, 50, 51, 52, 53, 54, 55, 56, 57, 58, 59, 60, 61, 62, 63, 64, 103, 104, 105, 106, 107, 108, 109, 110, 111, 112, 113, 114, 115, 116, 117, 118, 119, 120, 121, 122, 123, 124, 125, 126, 127, 128, 129, 130, 131, 132] (by decide +kernel) (by decide +kernel)
set_option maxRecDepth 20000 in
theorem gX8_ask_X4_prepare : GoodIn wsX8_ask (wsV RX8 33 RX4 yX4_prepare wsX4_prepare) := goodIn_app (goodIn_of _ (by decide +kernel)) ggX8_ask_X4_prepare
set_option maxRecDepth 20000 in
theorem ggX8_ask_X1_enterChange : GoodIn wsX8_ask wsX1_enterChange := goodIn_r _ [68, 22, 23, 69, 15, 70, 71, 72, 28, 73, 30, 74, 75, 76, 77, 78, 79, 39, 80, 41, 43, 45, 46, 47, 48, 49, 50, 81, 82, 83, 84, 42, 51, 105, 106, 107, 108, 109, 110, 116, 117, 118, 119, 120, 121, 122, 123, 124, 125, 111, 112, 113, 114, 115] (by decide +kernel) (by decide +kernel)
set_option maxRecDepth 20000 in
theorem gX8_ask_X1_enterChange : GoodIn wsX8_ask (wsV RX8 56 RX1 yX1_enterChange wsX1_enterChange) := goodIn_app (goodIn_of _ (by decide +kernel)) ggX8_ask_X1_enterChange
set_option maxRecDepth 20000 in
theorem ggX8_ask_X8_settle : GoodIn wsX8_ask wsX8_settle := goodIn_ca (goodIn_ca (goodIn_ca (goodIn_r _ [88, 89, 90, 91, 92, 93, 94, 1, 95, 96, 97, 6, 98, 9, 8, 99, 100, 101, 102, 103, 104] (by decide +kernel) (by decide +kernel)) (goodIn_sub (fun _ h => List.mem_cons_of_mem _ (List.mem_append_left _ (List.mem_append_left _ (List.mem_append_right _ h)))) (by decide +kernel))) (goodIn_sub (fun _ h => List.mem_cons_of_mem _ (List.mem_append_left _ (List.mem_append_right _ h))) (by decide +kernel))) (goodIn_sub (fun _ h => List.mem_cons_of_mem _ (List.mem_append_right _ h)) (by decide +kernel))
set_option maxRecDepth 20000 in
theorem gX8_ask_X8_settle : GoodIn wsX8_ask (wsV RX8 41 RX8 yX8_settle wsX8_settle) := goodIn_app (goodIn_of _ (by decide +kernel)) ggX8_ask_X8_settle
set_option maxRecDepth 20000 in
theorem ggX8_exempt_X4_prepare : GoodIn wsX8_exempt wsX4_prepare := goodIn_r _ [7, 8, 9, 10, 11, 12, 13, 14, 15, 16, 17, 18, 19, 20, 21, 22, 23, 24, 25, 26, 27, 28, 29, 30, 31, 32, 33, 34, 35, 36, 37, 38, 39, 40, 41, 42, 43, 44, 45, 46, 47, 48, 49, 50, 51, 52, 53, 54, 55, 56, 57, 58, 59, 60, 61, 62, 63, 64, 113, 114, 115, 116, 117, 118, 119, 120, 121, 122, 123, 124, 125, 126, 127, 128, 129, 130, 131, 132, 133, 134, 135, 136, 137, 138, 139, 140, 141, 142] (by decide +kernel) (by decide +kernel)
set_option maxRecDepth 20000 in
theorem gX8_exempt_X4_prepare : GoodIn wsX8_exempt (wsV RX8 33 RX4 yX4_prepare wsX4_prepare) := goodIn_app (goodIn_of _ (by decide +kernel)) ggX8_exempt_X4_prepare
set_option maxRecDepth 20000 in
theorem ggX8_exempt_X1_exemptChange : GoodIn wsX8_exempt wsX1_exemptChange := goodIn_r _ [68, 23, 69, 22, 70, 71, 72, 73, 74, 75, 76, 39, 77, 41, 78, 79, 80, 13, 81, 82, 83, 84, 85, 24, 15, 86, 87, 88, 55, 89, 57, 60, 62, 63, 90, 91, 92, 93, 16, 115, 116, 117, 118, 119, 120, 126, 127, 128, 129, 130, 131, 132, 133, 134, 135, 121, 122, 123, 124, 125, 136, 137, 138, 139, 140, 141, 142] (by decide +kernel) (by decide +kernel)
set_option maxRecDepth 20000 in
theorem gX8_exempt_X1_exemptChange : GoodIn wsX8_exempt (wsV RX8 59 RX1 yX1_exemptChange wsX1_exemptChange) := goodIn_app (goodIn_of _ (by decide +kernel)) ggX8_exempt_X1_exemptChange
set_option maxRecDepth 20000 in
theorem ggX8_exempt_X8_settle : GoodIn wsX8_exempt wsX8_settle := goodIn_ca (goodIn_ca (goodIn_ca (goodIn_r _ [98, 99, 100, 101, 102, 103, 104, 1, 105, 106, 107, 6, 108, 9, 8, 109, 110, 111, 112, 113, 114] (by decide +kernel) (by decide +kernel)) (goodIn_sub (fun _ h => List.mem_cons_of_mem _ (List.mem_append_left _ (List.mem_append_left _ (List.mem_append_right _ h)))) (by decide +kernel))) (goodIn_sub (fun _ h => List.mem_cons_of_mem _ (List.mem_append_left _ (List.mem_append_right _ h))) (by decide +kernel))) (goodIn_sub (fun _ h => List.mem_cons_of_mem _ (List.mem_append_right _ h)) (by decide +kernel))
set_option maxRecDepth 20000 in
theorem gX8_exempt_X8_settle : GoodIn wsX8_exempt (wsV RX8 41 RX8 yX8_settle wsX8_settle) := goodIn_app (goodIn_of _ (by decide +kernel)) ggX8_exempt_X8_settle
set_option maxRecDepth 20000 in
theorem ggX8_make_X4_prepare : GoodIn wsX8_make wsX4_prepare := goodIn_r _ [7, 8, 9, 10, 11, 12, 13, 14, 15, 16, 17, 18, 19, 20, 21, 22, 23, 24, 25, 26, 27, 28, 29, 30, 31, 32, 33, 34, 35, 36, 37, 38, 39, 40, 41, 42, 43, 44, 45, 46, 47, 48, 49, 50, 51, 52, 53, 54, 55, 56, 57, 58, 59, 60, 61, 62, 63, 64, 117, 118, 119, 120, 121, 122, 123, 124, 125, 126, 127, 128, 129, 130, 131, 132, 133, 134, 135, 136, 137, 138, 139, 140, 141, 142, 143, 144, 145, 146] (by decide +kernel) (by decide +kernel)
set_option maxRecDepth 20000 in
theorem gX8_make_X4_prepare : GoodIn wsX8_make (wsV RX8 33 RX4 yX4_prepare wsX4_prepare) := goodIn_app (goodIn_of _ (by decide +kernel)) ggX8_make_X4_prepare
set_option maxRecDepth 20000 in
theorem ggX8_make_X1_makeChange : GoodIn wsX8_make wsX1_makeChange := goodIn_r _ [68, 23, 69, 21, 15, 70, 71, 72, 22, 73, 16, 74, 75, 76, 77, 78, 79, 80, 81, 82, 39, 83, 41, 84, 85, 86, 87, 46, 88, 89, 90, 91, 92, 93, 94, 47, 95, 96, 97, 98, 42, 51, 119, 120, 121, 122, 123, 124, 130, 131, 132, 133, 134, 135, 136, 137, 138, 139, 125, 126, 127, 128, 129] (by decide +kernel) (by decide +kernel)
set_option maxRecDepth 20000 in
theorem gX8_make_X1_makeChange : GoodIn wsX8_make (wsV RX8 62 RX1 yX1_makeChange wsX1_makeChange) := goodIn_app (goodIn_of _ (by decide +kernel)) ggX8_make_X1_makeChange
set_option maxRecDepth 20000 in
theorem ggX8_make_X8_settle : GoodIn wsX8_make wsX8_settle := goodIn_ca (goodIn_ca (goodIn_ca (goodIn_r _ [102, 103, 104, 105, 106, 107, 108, 1, 109, 110, 111, 6, 112, 9, 8, 113, 114, 115, 116, 117, 118] (by decide +kernel) (by decide +kernel)) (goodIn_sub (fun _ h => List.mem_cons_of_mem _ (List.mem_append_left _ (List.mem_append_left _ (List.mem_append_right _ h)))) (by decide +kernel))) (goodIn_sub (fun _ h => List.mem_cons_of_mem _ (List.mem_append_left _ (List.mem_append_right _ h))) (by decide +kernel))) (goodIn_sub (fun _ h => List.mem_cons_of_mem _ (List.mem_append_right _ h)) (by decide +kernel))
set_option maxRecDepth 20000 in
theorem gX8_make_X8_settle : GoodIn wsX8_make (wsV RX8 41 RX8 yX8_settle wsX8_settle) := goodIn_app (goodIn_of _ (by decide +kernel)) ggX8_make_X8_settle
set_option maxRecDepth 20000 in
theorem ggX8_giveUp_X4_prepare : GoodIn wsX8_giveUp wsX4_prepare := goodIn_r _ [7, 8, 9, 10, 11, 12, 13, 14, 15, 16, 17, 18, 19, 20, 21, 22, 23, 24, 25, 26, 27, 28, 29, 30, 31, 32, 33, 34, 35, 36, 37, 38, 39, 40, 41, 42, 43, 44, 45, 46, 47, 48, 49, 50, 51, 52, 53, 54, 55, 56, 57, 58, 59, 60, 61, 62, 63, 64, 106, 107, 108, 109, 110, 111, 112, 113, 114, 115, 116, 117, 118, 119, 120, 121, 122, 123, 124, 125, 126, 127, 128, 129, 130, 131, 132, 133, 134, 135] (by decide +kernel) (by decide +kernel)
set_option maxRecDepth 20000 in
theorem gX8_giveUp_X4_prepare : GoodIn wsX8_giveUp (wsV RX8 33 RX4 yX4_prepare wsX4_prepare) := goodIn_app (goodIn_of _ (by decide +kernel)) ggX8_giveUp_X4_prepare
set_option maxRecDepth 20000 in
theorem ggX8_giveUp_X1_dropChange : GoodIn wsX8_giveUp wsX1_dropChange := goodIn_r _ [68, 23, 22, 69, 70, 71, 72, 73, 39, 74, 41, 75, 76, 77, 78, 46, 79, 80, 81, 82, 47, 83, 84, 85, 86, 42, 51, 108, 109, 110, 111, 112, 113, 114, 115, 116, 117, 118, 119, 120, 121, 122, 123, 124, 125, 126, 127, 128] (by decide +kernel) (by decide +kernel)
set_option maxRecDepth 20000 in
theorem gX8_giveUp_X1_dropChange : GoodIn wsX8_giveUp (wsV RX8 66 RX1 yX1_dropChange wsX1_dropChange) := goodIn_app (goodIn_of _ (by decide +kernel)) ggX8_giveUp_X1_dropChange
set_option maxRecDepth 20000 in
theorem ggX8_giveUp_X8_settle : GoodIn wsX8_giveUp wsX8_settle := goodIn_ca (goodIn_ca (goodIn_ca (goodIn_r _ [91, 92, 93, 94, 95, 96, 97, 1, 98, 99, 100, 6, 101, 9, 8, 102, 103, 104, 105, 106, 107] (by decide +kernel) (by decide +kernel)) (goodIn_sub (fun _ h => List.mem_cons_of_mem _ (List.mem_append_left _ (List.mem_append_left _ (List.mem_append_right _ h)))) (by decide +kernel))) (goodIn_sub (fun _ h => List.mem_cons_of_mem _ (List.mem_append_left _ (List.mem_append_right _ h))) (by decide +kernel))) (goodIn_sub (fun _ h => List.mem_cons_of_mem _ (List.mem_append_right _ h)) (by decide +kernel))
set_option maxRecDepth 20000 in
theorem gX8_giveUp_X8_settle : GoodIn wsX8_giveUp (wsV RX8 41 RX8 yX8_settle wsX8_settle) := goodIn_app (goodIn_of _ (by decide +kernel)) ggX8_giveUp_X8_settle
set_option maxRecDepth 20000 in
theorem ggX8_lend_X4_prepare : GoodIn wsX8_lend wsX4_prepare := goodIn_r _ [7, 8, 9, 10, 11, 12, 13, 14, 15, 16, 17, 18, 19, 20, 21, 22, 23, 24, 25, 26, 27, 28, 29, 30, 31, 32, 33, 34, 35, 36, 37, 38, 39, 40, 41, 42, 43, 44, 45, 46, 47, 48, 49, 50, 51, 52, 53, 54, 55, 56, 57, 58, 59, 60, 61, 62, 63, 64, 106, 107, 108, 109, 110, 111, 112, 113, 114, 115, 116, 117, 118, 119, 120, 121, 122, 123, 124, 125, 126, 127, 128, 129, 130, 131, 132, 133, 134, 135] (by decide +kernel) (by decide +kernel)
set_option maxRecDepth 20000 in
theorem gX8_lend_X4_prepare : GoodIn wsX8_lend (wsV RX8 33 RX4 yX4_prepare wsX4_prepare) := goodIn_app (goodIn_of _ (by decide +kernel)) ggX8_lend_X4_prepare
set_option maxRecDepth 20000 in
theorem ggX8_lend_X1_lendCredits : GoodIn wsX8_lend wsX1_lendCredits := goodIn_r _ [68, 22, 15, 24, 69, 70, 71, 72, 73, 28, 74, 30, 75, 76, 77, 13, 78, 79, 80, 81, 55, 82, 57, 60, 62, 63, 83, 84, 85, 86, 58, 61, 64, 108, 109, 110, 111, 112, 113, 129, 130, 131, 132, 133, 134, 135, 114, 115, 116, 117, 118] (by decide +kernel) (by decide +kernel)
set_option maxRecDepth 20000 in
theorem gX8_lend_X1_lendCredits : GoodIn wsX8_lend (wsV RX8 69 RX1 yX1_lendCredits wsX1_lendCredits) := goodIn_app (goodIn_of _ (by decide +kernel)) ggX8_lend_X1_lendCredits
set_option maxRecDepth 20000 in
theorem ggX8_lend_X8_settle : GoodIn wsX8_lend wsX8_settle := goodIn_ca (goodIn_ca (goodIn_ca (goodIn_r _ [91, 92, 93, 94, 95, 96, 97, 1, 98, 99, 100, 6, 101, 9, 8, 102, 103, 104, 105, 106, 107] (by decide +kernel) (by decide +kernel)) (goodIn_sub (fun _ h => List.mem_cons_of_mem _ (List.mem_append_left _ (List.mem_append_left _ (List.mem_append_right _ h)))) (by decide +kernel))) (goodIn_sub (fun _ h => List.mem_cons_of_mem _ (List.mem_append_left _ (List.mem_append_right _ h))) (by decide +kernel))) (goodIn_sub (fun _ h => List.mem_cons_of_mem _ (List.mem_append_right _ h)) (by decide +kernel))
set_option maxRecDepth 20000 in
theorem gX8_lend_X8_settle : GoodIn wsX8_lend (wsV RX8 41 RX8 yX8_settle wsX8_settle) := goodIn_app (goodIn_of _ (by decide +kernel)) ggX8_lend_X8_settle
set_option maxRecDepth 20000 in
theorem ggX8_repay_X4_prepare : GoodIn wsX8_repay wsX4_prepare := goodIn_r _ [7, 8, 9, 10, 11, 12, 13, 14, 15, 16, 17, 18, 19, 20, 21, 22, 23, 24, 25, 26, 27, 28, 29, 30, 31, 32, 33, 34, 35, 36, 37, 38, 39, 40, 41, 42, 43, 44, 45, 46, 47, 48, 49, 50, 51, 52, 53, 54, 55, 56, 57, 58, 59, 60, 61, 62, 63, 64, 104, 105, 106, 107, 108, 109, 110, 111, 112, 113, 114, 115, 116, 117, 118, 119, 120, 121, 122, 123, 124, 125, 126, 127, 128, 129, 130, 131, 132, 133] (by decide +kernel) (by decide +kernel)
set_option maxRecDepth 20000 in
theorem gX8_repay_X4_prepare : GoodIn wsX8_repay (wsV RX8 33 RX4 yX4_prepare wsX4_prepare) := goodIn_app (goodIn_of _ (by decide +kernel)) ggX8_repay_X4_prepare
set_option maxRecDepth 20000 in
theorem ggX8_repay_X1_repayLoan : GoodIn wsX8_repay wsX1_repayLoan := goodIn_r _ [68, 24, 69, 70, 71, 72, 55, 73, 57, 74, 75, 76, 13, 77, 22, 78, 79, 80, 81, 82, 83, 84, 106, 107, 108, 109, 110, 111, 127, 128, 129, 130, 131, 132, 133, 112, 113, 114, 115, 116] (by decide +kernel) (by decide +kernel)
set_option maxRecDepth 20000 in
theorem gX8_repay_X1_repayLoan : GoodIn wsX8_repay (wsV RX8 73 RX1 yX1_repayLoan wsX1_repayLoan) := goodIn_app (goodIn_of _ (by decide +kernel)) ggX8_repay_X1_repayLoan
set_option maxRecDepth 20000 in
theorem ggX8_repay_X8_settle : GoodIn wsX8_repay wsX8_settle := goodIn_ca (goodIn_ca (goodIn_ca (goodIn_r _ [89, 90, 91, 92, 93, 94, 95, 1, 96, 97, 98, 6, 99, 9, 8, 100, 101, 102, 103, 104, 105] (by decide +kernel) (by decide +kernel)) (goodIn_sub (fun _ h => List.mem_cons_of_mem _ (List.mem_append_left _ (List.mem_append_left _ (List.mem_append_right _ h)))) (by decide +kernel))) (goodIn_sub (fun _ h => List.mem_cons_of_mem _ (List.mem_append_left _ (List.mem_append_right _ h))) (by decide +kernel))) (goodIn_sub (fun _ h => List.mem_cons_of_mem _ (List.mem_append_right _ h)) (by decide +kernel))
set_option maxRecDepth 20000 in
theorem gX8_repay_X8_settle : GoodIn wsX8_repay (wsV RX8 41 RX8 yX8_settle wsX8_settle) := goodIn_app (goodIn_of _ (by decide +kernel)) ggX8_repay_X8_settle
set_option maxRecDepth 20000 in
theorem ggX8_team_X8_needTeam : GoodIn wsX8_team wsX8_needTeam := goodIn_ca (goodIn_r _ [6, 7, 8, 1, 9, 10, 11, 12, 13, 14, 15, 76, 77, 78, 79, 80, 81, 82, 83, 84, 85, 86, 87, 88, 89, 90] (by decide +kernel) (by decide +kernel)) (goodIn_sub (fun _ h => List.mem_cons_of_mem _ (List.mem_append_left _ (List.mem_append_right _ h))) (by decide +kernel))
set_option maxRecDepth 20000 in
theorem gX8_team_X8_needTeam : GoodIn wsX8_team (wsV RX8 76 RX8 yX8_needTeam wsX8_needTeam) := goodIn_app (goodIn_of _ (by decide +kernel)) ggX8_team_X8_needTeam
set_option maxRecDepth 20000 in
theorem ggX8_team_X8_needValue : GoodIn wsX8_team wsX8_needValue := goodIn_ca (goodIn_r _ [19, 20, 21] (by decide +kernel) (by decide +kernel)) (goodIn_sub (fun _ h => List.mem_cons_of_mem _ (List.mem_append_right _ h)) (by decide +kernel))
set_option maxRecDepth 20000 in
theorem gX8_team_X8_needValue : GoodIn wsX8_team (wsV RX8 80 RX8 yX8_needValue wsX8_needValue) := goodIn_app (goodIn_of _ (by decide +kernel)) ggX8_team_X8_needValue
set_option maxRecDepth 20000 in
theorem ggX8_team_X1_teamValue : GoodIn wsX8_team wsX1_teamValue := goodIn_r _ [26, 27, 28, 29, 30, 31, 32, 33, 34, 35, 36, 37, 38, 39, 40, 41, 42, 43, 44, 45, 46, 47, 48, 49, 50, 51, 52, 53, 54, 55, 56, 57, 58, 59, 60, 61, 62, 25, 63, 64, 65, 66, 67, 68, 69, 5, 70, 71, 72, 73, 74, 75, 80, 81, 82, 83, 84, 85, 86, 87, 88, 89, 90, 91, 92, 93, 94, 95, 96, 97, 98, 99, 100, 101, 102, 103, 104, 105, 106, 107] (by decide +kernel) (by decide +kernel)
set_option maxRecDepth 20000 in
theorem gX8_team_X1_teamValue : GoodIn wsX8_team (wsV RX8 84 RX1 yX1_teamValue wsX1_teamValue) := goodIn_app (goodIn_of _ (by decide +kernel)) ggX8_team_X1_teamValue
set_option maxRecDepth 20000 in
theorem ggX8_change_X8_needChange : GoodIn wsX8_change wsX8_needChange := goodIn_ca (goodIn_r _ [7, 8, 9, 1, 2, 10, 11, 12, 13, 14, 15, 33, 34, 35, 36, 37, 38, 39, 40, 41, 42, 43, 44, 45, 46, 47, 48, 49, 50, 51, 52] (by decide +kernel) (by decide +kernel)) (goodIn_sub (fun _ h => List.mem_cons_of_mem _ (List.mem_append_left _ (List.mem_append_right _ h))) (by decide +kernel))
set_option maxRecDepth 20000 in
theorem gX8_change_X8_needChange : GoodIn wsX8_change (wsV RX8 87 RX8 yX8_needChange wsX8_needChange) := goodIn_app (goodIn_of _ (by decide +kernel)) ggX8_change_X8_needChange
set_option maxRecDepth 20000 in
theorem ggX8_change_X8_needValue : GoodIn wsX8_change wsX8_needValue := goodIn_ca (goodIn_r _ [19, 20, 21] (by decide +kernel) (by decide +kernel)) (goodIn_sub (fun _ h => List.mem_cons_of_mem _ (List.mem_append_right _ h)) (by decide +kernel))
set_option maxRecDepth 20000 in
theorem gX8_change_X8_needValue : GoodIn wsX8_change (wsV RX8 80 RX8 yX8_needValue wsX8_needValue) := goodIn_app (goodIn_of _ (by decide +kernel)) ggX8_change_X8_needValue
set_option maxRecDepth 20000 in
theorem ggX8_change_X2_value : GoodIn wsX8_change wsX2_value := goodIn_r _ [25, 26, 27, 28, 29, 30, 31, 32, 43, 44, 45, 46, 47, 48, 49, 50, 51, 52] (by decide +kernel) (by decide +kernel)
set_option maxRecDepth 20000 in
theorem gX8_change_X2_value : GoodIn wsX8_change (wsV RX8 94 RX2 yX2_value wsX2_value) := goodIn_app (goodIn_of _ (by decide +kernel)) ggX8_change_X2_value
set_option maxRecDepth 20000 in
theorem ggX8_loan_X5_has : GoodIn wsX8_loan wsX5_has := goodIn_r _ [9, 10, 38, 39, 40, 41, 42, 43, 44] (by decide +kernel) (by decide +kernel)
set_option maxRecDepth 20000 in
theorem gX8_loan_X5_has : GoodIn wsX8_loan (wsV RX8 103 RX5 yX5_has wsX5_has) := goodIn_app (goodIn_of _ (by decide +kernel)) ggX8_loan_X5_has
set_option maxRecDepth 20000 in
theorem ggX8_loan_X8_needValue : GoodIn wsX8_loan wsX8_needValue := goodIn_ca (goodIn_r _ [15, 16, 17] (by decide +kernel) (by decide +kernel)) (goodIn_sub (fun _ h => List.mem_cons_of_mem _ (List.mem_append_right _ h)) (by decide +kernel))
set_option maxRecDepth 20000 in
theorem gX8_loan_X8_needValue : GoodIn wsX8_loan (wsV RX8 80 RX8 yX8_needValue wsX8_needValue) := goodIn_app (goodIn_of _ (by decide +kernel)) ggX8_loan_X8_needValue
set_option maxRecDepth 20000 in
theorem ggX8_loan_X5_value : GoodIn wsX8_loan wsX5_value := goodIn_r _ [21, 22, 23, 24, 25, 26, 27, 38, 39, 40, 41, 42, 43, 44] (by decide +kernel) (by decide +kernel)
set_option maxRecDepth 20000 in
theorem gX8_loan_X5_value : GoodIn wsX8_loan (wsV RX8 116 RX5 yX5_value wsX5_value) := goodIn_app (goodIn_of _ (by decide +kernel)) ggX8_loan_X5_value
set_option maxRecDepth 20000 in
theorem ggX8_frozen_X8_asNumber : GoodIn wsX8_frozen wsX8_asNumber := goodIn_r _ [8] (by decide +kernel) (by decide +kernel)
set_option maxRecDepth 20000 in
theorem gX8_frozen_X8_asNumber : GoodIn wsX8_frozen (va_wsS RX8 136 yX8_asNumber wsX8_asNumber) := goodIn_app (goodIn_of _ (by decide +kernel)) ggX8_frozen_X8_asNumber
set_option maxRecDepth 20000 in
theorem ggX8_whole_X8_needValue : GoodIn wsX8_whole wsX8_needValue := goodIn_ca (goodIn_r _ [5, 6, 7] (by decide +kernel) (by decide +kernel)) (goodIn_sub (fun _ h => List.mem_cons_of_mem _ (List.mem_append_right _ h)) (by decide +kernel))
set_option maxRecDepth 20000 in
theorem gX8_whole_X8_needValue : GoodIn wsX8_whole (wsV RX8 80 RX8 yX8_needValue wsX8_needValue) := goodIn_app (goodIn_of _ (by decide +kernel)) ggX8_whole_X8_needValue
set_option maxRecDepth 20000 in
theorem ggX8_whole_X8_wholeValue : GoodIn wsX8_whole wsX8_wholeValue := goodIn_r _ [11, 12, 13, 14, 15, 16, 17, 18, 19, 20, 21, 22, 23, 24, 25, 26, 27, 28, 29, 30, 31, 32, 33, 34, 35, 36, 37, 38, 39, 40, 41, 42, 43, 4, 44, 45, 46, 47, 48, 49, 50, 51, 52, 53, 54, 55, 56, 57, 58, 59, 60, 61, 62, 63, 64, 65, 66, 67, 68, 69, 70, 71, 72, 73, 74, 75, 76, 77, 78, 79, 80, 81, 82, 83, 84, 85, 86, 87, 88, 89, 90, 91, 92, 93, 94, 95, 96, 97, 98, 99, 100, 101, 102, 103, 104, 105, 106, 107, 108, 109, 110, 111, 112, 113, 114] (by decide +kernel) (by decide +kernel)
set_option maxRecDepth 20000 in
theorem gX8_whole_X8_wholeValue : GoodIn wsX8_whole (wsV RX8 140 RX8 yX8_wholeValue wsX8_wholeValue) := goodIn_app (goodIn_of _ (by decide +kernel)) ggX8_whole_X8_wholeValue
set_option maxRecDepth 20000 in
theorem ggX8_reason_X8_needChange : GoodIn wsX8_reason wsX8_needChange := goodIn_ca (goodIn_r _ [6, 7, 8, 1, 9, 10, 11, 12, 13, 14, 15, 47, 48, 49, 50, 51, 52, 53, 54, 55, 56, 57, 58, 59, 60, 61, 62, 63, 64, 65, 66] (by decide +kernel) (by decide +kernel)) (goodIn_sub (fun _ h => List.mem_cons_of_mem _ (List.mem_append_right _ h)) (by decide +kernel))
set_option maxRecDepth 20000 in
theorem gX8_reason_X8_needChange : GoodIn wsX8_reason (wsV RX8 87 RX8 yX8_needChange wsX8_needChange) := goodIn_app (goodIn_of _ (by decide +kernel)) ggX8_reason_X8_needChange
set_option maxRecDepth 20000 in
theorem ggX8_reason_X1_reasonAgainst : GoodIn wsX8_reason wsX1_reasonAgainst := goodIn_r _ [20, 21, 22, 23, 24, 25, 26, 27, 28, 29, 19, 30, 31, 32, 33, 34, 35, 36, 37, 38, 39, 40, 41, 42, 43, 44, 45, 46, 51, 52, 53, 54, 55, 56, 57, 58, 59, 60, 61, 62, 63, 64, 65, 66, 67, 68, 69, 70, 71, 72, 73, 74, 75, 76, 77, 78] (by decide +kernel) (by decide +kernel)
set_option maxRecDepth 20000 in
theorem gX8_reason_X1_reasonAgainst : GoodIn wsX8_reason (wsV RX8 143 RX1 yX1_reasonAgainst wsX1_reasonAgainst) := goodIn_app (goodIn_of _ (by decide +kernel)) ggX8_reason_X1_reasonAgainst
set_option maxRecDepth 20000 in
theorem ggX8_exemptible_X8_needTeam : GoodIn wsX8_exemptible wsX8_needTeam := goodIn_ca (goodIn_r _ [6, 7, 8, 1, 9, 10, 11, 12, 13, 14, 15, 49, 50, 51, 52, 53, 54, 55, 56, 57, 58, 59, 60, 61, 62, 63] (by decide +kernel) (by decide +kernel)) (goodIn_sub (fun _ h => List.mem_cons_of_mem _ (List.mem_append_right _ h)) (by decide +kernel))
set_option maxRecDepth 20000 in
theorem gX8_exemptible_X8_needTeam : GoodIn wsX8_exemptible (wsV RX8 76 RX8 yX8_needTeam wsX8_needTeam) := goodIn_app (goodIn_of _ (by decide +kernel)) ggX8_exemptible_X8_needTeam
set_option maxRecDepth 20000 in
theorem ggX8_exemptible_X1_countExemptible : GoodIn wsX8_exemptible wsX1_countExemptible := goodIn_r _ [20, 21, 22, 23, 24, 25, 26, 27, 28, 29, 30, 31, 19, 32, 33, 34, 35, 36, 37, 38, 39, 40, 41, 42, 43, 44, 45, 46, 47, 48, 53, 54, 55, 56, 57, 58, 59, 60, 61, 62, 63, 64, 65, 66, 67, 68, 69, 70, 71, 72, 73, 74, 75, 76, 77, 78, 79, 80] (by decide +kernel) (by decide +kernel)
set_option maxRecDepth 20000 in
theorem gX8_exemptible_X1_countExemptible : GoodIn wsX8_exemptible (wsV RX8 146 RX1 yX1_countExemptible wsX1_countExemptible) := goodIn_app (goodIn_of _ (by decide +kernel)) ggX8_exemptible_X1_countExemptible
set_option maxRecDepth 20000 in
theorem ggX8_weeksUntil_X8_needTeam : GoodIn wsX8_weeksUntil wsX8_needTeam := goodIn_ca (goodIn_r _ [10, 11, 12, 1, 4, 13, 14, 15, 16, 17, 18, 128, 129, 130, 131, 132, 133, 134, 135, 136, 137, 138, 139, 140, 141, 142] (by decide +kernel) (by decide +kernel)) (goodIn_sub (fun _ h => List.mem_cons_of_mem _ (List.mem_append_left _ (List.mem_append_right _ h))) (by decide +kernel))
set_option maxRecDepth 20000 in
theorem gX8_weeksUntil_X8_needTeam : GoodIn wsX8_weeksUntil (wsV RX8 76 RX8 yX8_needTeam wsX8_needTeam) := goodIn_app (goodIn_of _ (by decide +kernel)) ggX8_weeksUntil_X8_needTeam
set_option maxRecDepth 20000 in
theorem ggX8_weeksUntil_X8_needRisk : GoodIn wsX8_weeksUntil wsX8_needRisk := goodIn_ca (goodIn_r _ [22, 23, 24, 25, 26, 9, 27] (by decide +kernel) (by decide +kernel)) (goodIn_sub (fun _ h => List.mem_cons_of_mem _ (List.mem_append_right _ h)) (by decide +kernel))
set_option maxRecDepth 20000 in
theorem gX8_weeksUntil_X8_needRisk : GoodIn wsX8_weeksUntil (wsV RX8 149 RX8 yX8_needRisk wsX8_needRisk) := goodIn_app (goodIn_of _ (by decide +kernel)) ggX8_weeksUntil_X8_needRisk
set_option maxRecDepth 20000 in
theorem ggX8_weeksUntil_X1_creditsOf : GoodIn wsX8_weeksUntil wsX1_creditsOf := goodIn_r _ [32, 33, 132, 133, 134, 135, 136, 137] (by decide +kernel) (by decide +kernel)
set_option maxRecDepth 20000 in
theorem gX8_weeksUntil_X1_creditsOf : GoodIn wsX8_weeksUntil (wsV RX8 152 RX1 yX1_creditsOf wsX1_creditsOf) := goodIn_app (goodIn_of _ (by decide +kernel)) ggX8_weeksUntil_X1_creditsOf
set_option maxRecDepth 20000 in
theorem ggX8_weeksUntil_X1_copyFrom : GoodIn wsX8_weeksUntil wsX1_copyFrom := goodIn_r _ [37, 38, 33, 39, 40, 41, 42, 43, 44, 45, 46, 47, 48, 49, 16, 50, 18, 51, 52, 53, 54, 55, 56, 57, 58, 59, 60, 61, 62, 63, 64, 65, 66, 67, 68, 69, 70, 71, 72, 73, 74, 75, 76, 77, 78, 79, 80, 81, 82, 83, 84, 132, 133, 134, 135, 136, 137, 138, 139, 140, 141, 142, 143, 144, 145, 146, 147, 148, 149, 150, 151, 152, 153, 154, 155, 156, 157, 158, 159] (by decide +kernel) (by decide +kernel)
set_option maxRecDepth 20000 in
theorem gX8_weeksUntil_X1_copyFrom : GoodIn wsX8_weeksUntil (wsV RX8 158 RX1 yX1_copyFrom wsX1_copyFrom) := goodIn_app (goodIn_of _ (by decide +kernel)) ggX8_weeksUntil_X1_copyFrom
set_option maxRecDepth 20000 in
theorem ggX8_weeksUntil_X1_closeWeek : GoodIn wsX8_weeksUntil wsX1_closeWeek := goodIn_r _ [88, 38, 89, 90, 91, 31, 92, 44, 93, 45, 33, 94, 95, 96, 59, 97, 61, 63, 66, 69, 98, 99, 100, 16, 101, 51, 102, 103, 104, 105, 106, 107, 108, 54, 109, 110, 111, 112, 46, 113, 114, 115, 116, 117, 118, 119, 120, 121, 122, 123, 124, 125, 126, 127, 132, 133, 134, 135, 136, 137, 138, 139, 140, 141, 142, 143, 144, 145, 146, 147, 148, 149, 150, 151, 152, 153, 154, 155, 156, 157, 158, 159] (by decide +kernel) (by decide +kernel)
set_option maxRecDepth 20000 in
theorem gX8_weeksUntil_X1_closeWeek : GoodIn wsX8_weeksUntil (wsV RX8 52 RX1 yX1_closeWeek wsX1_closeWeek) := goodIn_app (goodIn_of _ (by decide +kernel)) ggX8_weeksUntil_X1_closeWeek
set_option maxRecDepth 20000 in
theorem ggX8_lender_X8_needTeam : GoodIn wsX8_lender wsX8_needTeam := goodIn_ca (goodIn_r _ [8, 9, 10, 1, 2, 11, 12, 13, 14, 15, 16, 52, 53, 54, 55, 56, 57, 58, 59, 60, 61, 62, 63, 64, 65, 66] (by decide +kernel) (by decide +kernel)) (goodIn_sub (fun _ h => List.mem_cons_of_mem _ (List.mem_append_left _ (List.mem_append_right _ h))) (by decide +kernel))
set_option maxRecDepth 20000 in
theorem gX8_lender_X8_needTeam : GoodIn wsX8_lender (wsV RX8 76 RX8 yX8_needTeam wsX8_needTeam) := goodIn_app (goodIn_of _ (by decide +kernel)) ggX8_lender_X8_needTeam
set_option maxRecDepth 20000 in
theorem ggX8_lender_X8_needRisk : GoodIn wsX8_lender wsX8_needRisk := goodIn_ca (goodIn_r _ [20, 21, 22, 23, 24, 7, 25] (by decide +kernel) (by decide +kernel)) (goodIn_sub (fun _ h => List.mem_cons_of_mem _ (List.mem_append_right _ h)) (by decide +kernel))
set_option maxRecDepth 20000 in
theorem gX8_lender_X8_needRisk : GoodIn wsX8_lender (wsV RX8 149 RX8 yX8_needRisk wsX8_needRisk) := goodIn_app (goodIn_of _ (by decide +kernel)) ggX8_lender_X8_needRisk
set_option maxRecDepth 20000 in
theorem ggX8_lender_X1_creditsOf : GoodIn wsX8_lender wsX1_creditsOf := goodIn_r _ [30, 31, 56, 57, 58, 59, 60, 61] (by decide +kernel) (by decide +kernel)
set_option maxRecDepth 20000 in
theorem gX8_lender_X1_creditsOf : GoodIn wsX8_lender (wsV RX8 152 RX1 yX1_creditsOf wsX1_creditsOf) := goodIn_app (goodIn_of _ (by decide +kernel)) ggX8_lender_X1_creditsOf
set_option maxRecDepth 20000 in
theorem ggX8_lender_X1_owes : GoodIn wsX8_lender wsX1_owes := goodIn_r _ [35, 36, 37, 38, 39, 40, 41, 42, 43, 44, 45, 46, 56, 57, 58, 59, 60, 61, 67, 68, 69, 70, 71, 72, 73] (by decide +kernel) (by decide +kernel)
set_option maxRecDepth 20000 in
theorem gX8_lender_X1_owes : GoodIn wsX8_lender (wsV RX8 170 RX1 yX1_owes wsX1_owes) := goodIn_app (goodIn_of _ (by decide +kernel)) ggX8_lender_X1_owes
set_option maxRecDepth 20000 in
theorem ggX8_lender_X6_richestOther : GoodIn wsX8_lender wsX6_richestOther := goodIn_r _ [50, 16, 51, 62, 63, 64, 65, 66] (by decide +kernel) (by decide +kernel)
set_option maxRecDepth 20000 in
theorem gX8_lender_X6_richestOther : GoodIn wsX8_lender (wsV RX8 173 RX6 yX6_richestOther wsX6_richestOther) := goodIn_app (goodIn_of _ (by decide +kernel)) ggX8_lender_X6_richestOther
set_option maxRecDepth 20000 in
theorem ggX8_nextThaw_X1_firstThaw : GoodIn wsX8_nextThaw wsX1_firstThaw := goodIn_r _ [6, 7, 8, 13, 14, 15, 16, 17, 18] (by decide +kernel) (by decide +kernel)
set_option maxRecDepth 20000 in
theorem gX8_nextThaw_X1_firstThaw : GoodIn wsX8_nextThaw (wsV RX8 176 RX1 yX1_firstThaw wsX1_firstThaw) := goodIn_app (goodIn_of _ (by decide +kernel)) ggX8_nextThaw_X1_firstThaw
set_option maxRecDepth 20000 in
theorem ggX8_inBeing_X1_copyFrom : GoodIn wsX8_inBeing wsX1_copyFrom := goodIn_r _ [10, 11, 12, 13, 14, 15, 16, 17, 18, 19, 20, 21, 22, 23, 24, 25, 26, 27, 28, 29, 30, 31, 32, 33, 34, 35, 36, 37, 38, 39, 40, 41, 42, 43, 44, 45, 46, 47, 48, 49, 50, 51, 52, 53, 54, 55, 56, 57, 58, 59, 60, 121, 122, 123, 124, 125, 126, 127, 128, 129, 130, 131, 132, 133, 134, 135, 136, 137, 138, 139, 140, 141, 142, 143, 144, 145, 146, 147, 148] (by decide +kernel) (by decide +kernel)
set_option maxRecDepth 20000 in
theorem gX8_inBeing_X1_copyFrom : GoodIn wsX8_inBeing (wsV RX8 158 RX1 yX1_copyFrom wsX1_copyFrom) := goodIn_app (goodIn_of _ (by decide +kernel)) ggX8_inBeing_X1_copyFrom
set_option maxRecDepth 20000 in
theorem ggX8_inBeing_X1_closeWeek : GoodIn wsX8_inBeing wsX1_closeWeek := goodIn_r _ [64, 11, 65, 66, 67, 9, 68, 18, 69, 19, 12, 70, 71, 72, 35, 73, 37, 39, 42, 45, 74, 75, 76, 24, 77, 27, 78, 79, 80, 81, 82, 83, 84, 30, 85, 86, 87, 88, 20, 89, 90, 91, 92, 93, 94, 95, 96, 97, 98, 99, 100, 101, 102, 103, 121, 122, 123, 124, 125, 126, 127, 128, 129, 130, 131, 132, 133, 134, 135, 136, 137, 138, 139, 140, 141, 142, 143, 144, 145, 146, 147, 148] (by decide +kernel) (by decide +kernel)
set_option maxRecDepth 20000 in
theorem gX8_inBeing_X1_closeWeek : GoodIn wsX8_inBeing (wsV RX8 52 RX1 yX1_closeWeek wsX1_closeWeek) := goodIn_app (goodIn_of _ (by decide +kernel)) ggX8_inBeing_X1_closeWeek
set_option maxRecDepth 20000 in
theorem ggX8_inBeing_X1_wholeFree : GoodIn wsX8_inBeing wsX1_wholeFree := goodIn_r _ [107, 18, 97, 69, 108, 109, 110, 121, 122, 123, 124, 125, 126, 127, 128, 129, 130, 131] (by decide +kernel) (by decide +kernel)
set_option maxRecDepth 20000 in
theorem gX8_inBeing_X1_wholeFree : GoodIn wsX8_inBeing (wsV RX8 181 RX1 yX1_wholeFree wsX1_wholeFree) := goodIn_app (goodIn_of _ (by decide +kernel)) ggX8_inBeing_X1_wholeFree
set_option maxRecDepth 20000 in
theorem ggX8_inBeing_X1_wholeHeld : GoodIn wsX8_inBeing wsX1_wholeHeld := goodIn_r _ [114, 19, 115, 116, 108, 109, 110, 121, 122, 123, 124, 125, 126, 132, 133, 134, 135, 136, 137, 138, 139, 140, 141] (by decide +kernel) (by decide +kernel)
set_option maxRecDepth 20000 in
theorem gX8_inBeing_X1_wholeHeld : GoodIn wsX8_inBeing (wsV RX8 184 RX1 yX1_wholeHeld wsX1_wholeHeld) := goodIn_app (goodIn_of _ (by decide +kernel)) ggX8_inBeing_X1_wholeHeld
set_option maxRecDepth 20000 in
theorem ggX8_type_X3_append : GoodIn wsX8_type wsX3_append := goodIn_r _ [11, 12, 13, 18, 19, 20, 21, 22] (by decide +kernel) (by decide +kernel)
set_option maxRecDepth 20000 in
theorem gX8_type_X3_append : GoodIn wsX8_type (wsV RX8 197 RX3 yX3_append wsX3_append) := goodIn_app (goodIn_of _ (by decide +kernel)) ggX8_type_X3_append
set_option maxRecDepth 20000 in
theorem ggX8_runCommands_X3_findFault : GoodIn wsX8_runCommands wsX3_findFault := goodIn_r _ [8, 9, 10, 11, 7, 12, 13, 14, 15, 16, 17, 18, 19, 20, 21, 22, 23, 24, 25, 26, 27, 28, 29, 30, 31, 32, 33, 34, 35, 36, 37, 38, 39, 40, 41, 42, 43, 44, 45, 46, 47, 48, 49, 50, 51, 52, 53, 54, 55, 56, 57, 58, 59, 60, 61, 62, 63, 64, 65, 66, 67, 68, 69, 70, 71, 72, 73, 74, 75, 76, 77, 78, 79, 80, 81, 82, 83, 84, 85, 86, 87, 88, 89, 90, 91, 92, 93, 94, 95, 96, 97, 98, 99, 100, 101, 102, 103, 104, 348, 349, 350, 351, 352] (by decide +kernel) (by decide +kernel)
set_option maxRecDepth 20000 in
theorem gX8_runCommands_X3_findFault : GoodIn wsX8_runCommands (wsV RX8 200 RX3 yX3_findFault wsX3_findFault) := goodIn_app (goodIn_of _ (by decide +kernel)) ggX8_runCommands_X3_findFault
set_option maxRecDepth 20000 in
theorem ggX8_runCommands_X4_prepare : GoodIn wsX8_runCommands wsX4_prepare := goodIn_r _ [109, 110, 111, 112, 113, 114, 115, 116, 117, 118, 119, 120, 121, 122, 123, 124, 125, 126, 127, 128, 129, 130, 131, 132, 133, 134, 135, 136, 137, 138, 139, 140, 141, 142, 143, 144, 145, 146, 147, 148, 149, 150, 151, 152, 153, 154, 155, 156, 157, 158, 159, 160, 161, 162, 163, 164, 165, 166, 353, 354, 355, 356, 357, 358, 359, 360, 361, 362, 363, 364, 365, 366, 367, 368, 369, 370, 371, 372, 373, 374, 375, 376, 377, 378, 379, 380, 381, 382] (by decide +kernel) (by decide +kernel)
set_option maxRecDepth 20000 in
theorem gX8_runCommands_X4_prepare : GoodIn wsX8_runCommands (wsV RX8 33 RX4 yX4_prepare wsX4_prepare) := goodIn_app (goodIn_of _ (by decide +kernel)) ggX8_runCommands_X4_prepare
set_option maxRecDepth 20000 in
theorem ggX8_runCommands_X8_carryOutText_0 : GoodIn wsX8_runCommands ((wsX8_carryOutText).take 168) := goodIn_r _ [171, 1, 172, 173, 174, 10, 11, 7, 12, 13, 175, 15, 16, 17, 18, 19, 20, 21, 22, 23, 176, 25, 26, 27, 28, 29, 30, 31, 32, 33, 34, 35, 36, 37, 38, 39, 40, 41, 42, 43, 44, 45, 46, 47, 48, 49, 50, 51, 52, 53, 54, 55, 56, 57, 58, 59, 60, 61, 62, 63, 64, 65, 66, 67, 68, 69, 70, 71, 72, 73, 74, 75, 76, 77, 78, 79, 80, 81, 82, 83, 84, 85, 86, 87, 88, 89, 90, 91, 92, 93, 94, 95, 96, 97, 98, 99, 100, 101, 102, 103, 104, 177, 178, 179, 170, 180, 181, 3, 182, 183, 184, 185, 186, 187, 188, 189, 190, 191, 115, 192, 124, 193, 194, 195, 196, 130, 197, 132, 133, 135, 136, 137, 198, 199, 200, 201, 117, 123, 202, 203, 204, 205, 206, 207, 208, 209, 210, 211, 125, 212, 213, 214, 215, 216, 217, 218, 219, 220, 221, 141, 222, 143, 145, 147, 148, 149, 150, 151] (by decide +kernel) (by decide +kernel)
