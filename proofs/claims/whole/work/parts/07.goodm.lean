set_option maxRecDepth 20000 in
theorem ggX10_feed_X10_come : GoodIn wsX10_feed wsX10_come := goodIn_r _ [7, 8, 2, 9, 10, 11, 12, 13, 14, 15, 16, 17, 18, 19, 20, 21, 22, 23, 24, 25, 26, 27, 28, 29, 30, 31, 32, 33, 34, 35, 36, 37, 38, 39, 40, 41, 42, 43, 44, 45] rfl (by decide +kernel)
set_option maxRecDepth 20000 in
theorem gX10_feed_X10_come : GoodIn wsX10_feed (wsV RX10 80 RX10 yX10_come wsX10_come) := goodIn_app (goodIn_of _ (by decide +kernel)) ggX10_feed_X10_come
set_option maxRecDepth 20000 in
theorem ggX10_go_X10_isLetter : GoodIn wsX10_go wsX10_isLetter := goodIn_r _ [14] rfl (by decide +kernel)
set_option maxRecDepth 20000 in
theorem gX10_go_X10_isLetter : GoodIn wsX10_go (va_wsS RX10 96 yX10_isLetter wsX10_isLetter) := goodIn_app (goodIn_of _ (by decide +kernel)) ggX10_go_X10_isLetter
set_option maxRecDepth 20000 in
theorem ggX10_go_X10_isDigit : GoodIn wsX10_go wsX10_isDigit := goodIn_r _ [17] rfl (by decide +kernel)
set_option maxRecDepth 20000 in
theorem gX10_go_X10_isDigit : GoodIn wsX10_go (va_wsS RX10 100 yX10_isDigit wsX10_isDigit) := goodIn_app (goodIn_of _ (by decide +kernel)) ggX10_go_X10_isDigit
set_option maxRecDepth 20000 in
theorem ggX10_go_X10_byteAt : GoodIn wsX10_go wsX10_byteAt := goodIn_r _ [21, 2, 3, 22, 23, 24, 25, 26, 27, 28, 29, 30, 31, 32, 33, 34, 35, 36, 37, 38, 39, 40, 41, 42, 43, 44, 45, 46, 47, 48, 49, 50, 51, 52, 53, 54, 55, 56, 57, 58] rfl (by decide +kernel)
set_option maxRecDepth 20000 in
theorem gX10_go_X10_byteAt : GoodIn wsX10_go (wsV RX10 110 RX10 yX10_byteAt wsX10_byteAt) := goodIn_app (goodIn_of _ (by decide +kernel)) ggX10_go_X10_byteAt
set_option maxRecDepth 20000 in
theorem ggX10_ruleAtHand_X10_spelt : GoodIn wsX10_ruleAtHand wsX10_spelt := goodIn_r _ [11, 1, 12] rfl (by decide +kernel)
set_option maxRecDepth 20000 in
theorem gX10_ruleAtHand_X10_spelt : GoodIn wsX10_ruleAtHand (va_wsS RX10 122 yX10_spelt wsX10_spelt) := goodIn_app (goodIn_of _ (by decide +kernel)) ggX10_ruleAtHand_X10_spelt
set_option maxRecDepth 20000 in
theorem ggX10_ruleAtHand_X10_isKey : GoodIn wsX10_ruleAtHand wsX10_isKey := goodIn_r _ [16, 17, 18, 19, 20, 21, 22, 23, 24, 25, 26, 27, 28, 29, 30, 31, 32, 33, 34, 35, 36, 37, 38, 39, 40, 41, 42, 43, 44, 45, 46, 47, 48, 49, 50, 51, 52, 53, 54, 55] rfl (by decide +kernel)
set_option maxRecDepth 20000 in
theorem gX10_ruleAtHand_X10_isKey : GoodIn wsX10_ruleAtHand (wsV RX10 128 RX10 yX10_isKey wsX10_isKey) := goodIn_app (goodIn_of _ (by decide +kernel)) ggX10_ruleAtHand_X10_isKey
set_option maxRecDepth 20000 in
theorem ggX10_readRule_X10_ruleAtHand : GoodIn wsX10_readRule wsX10_ruleAtHand := goodIn_r _ [11, 12, 13, 14, 15, 16, 17, 18, 19, 20, 10, 21, 22, 23, 24, 25, 26, 2, 27, 53, 54, 55, 56, 57, 58, 59, 60, 61, 62, 63, 64, 65, 66, 67, 68, 69, 70, 71, 72, 73, 74, 75, 76, 77, 78, 79, 80, 81, 82, 83, 84, 85, 86, 87, 88, 89] rfl (by decide +kernel)
set_option maxRecDepth 20000 in
theorem gX10_readRule_X10_ruleAtHand : GoodIn wsX10_readRule (wsV RX10 146 RX10 yX10_ruleAtHand wsX10_ruleAtHand) := goodIn_app (goodIn_of _ (by decide +kernel)) ggX10_readRule_X10_ruleAtHand
set_option maxRecDepth 20000 in
theorem ggX10_readRule_X10_bad : GoodIn wsX10_readRule wsX10_bad := goodIn_r _ [31, 2, 32, 33, 34, 53, 54, 55, 56, 57, 58, 59, 60, 61, 62, 63, 64, 65, 66, 67, 68, 69, 70, 71, 72, 73, 74, 75, 76, 77, 78, 79, 80, 81, 82, 83, 84, 85, 86, 87, 88, 89] rfl (by decide +kernel)
set_option maxRecDepth 20000 in
theorem gX10_readRule_X10_bad : GoodIn wsX10_readRule (wsV RX10 150 RX10 yX10_bad wsX10_bad) := goodIn_app (goodIn_of _ (by decide +kernel)) ggX10_readRule_X10_bad
set_option maxRecDepth 20000 in
theorem ggX10_readRule_X10_go : GoodIn wsX10_readRule wsX10_go := goodIn_r _ [38, 39, 40, 41, 33, 2, 27, 3, 12, 22, 42, 43, 44, 10, 45, 46, 47, 48, 49, 50, 51, 52, 53, 54, 55, 56, 57, 58, 59, 60, 61, 62, 63, 64, 65, 66, 67, 68, 69, 70, 71, 72, 73, 74, 75, 76, 77, 78, 79, 80, 81, 82, 83, 84, 85, 86, 87, 88, 89] rfl (by decide +kernel)
set_option maxRecDepth 20000 in
theorem gX10_readRule_X10_go : GoodIn wsX10_readRule (wsV RX10 156 RX10 yX10_go wsX10_go) := goodIn_app (goodIn_of _ (by decide +kernel)) ggX10_readRule_X10_go
set_option maxRecDepth 20000 in
theorem ggX10_rules_X10_go : GoodIn wsX10_rules wsX10_go := goodIn_r _ [16, 8, 3, 17, 18, 9, 19, 20, 21, 22, 23, 24, 25, 15, 26, 27, 28, 29, 30, 31, 32, 33, 61, 62, 63, 64, 65, 66, 67, 68, 69, 70, 71, 72, 73, 74, 75, 76, 77, 78, 79, 80, 81, 82, 83, 84, 85, 86, 87, 88, 89, 90, 91, 92, 93, 94, 95, 96, 97] rfl (by decide +kernel)
set_option maxRecDepth 20000 in
theorem gX10_rules_X10_go : GoodIn wsX10_rules (wsV RX10 156 RX10 yX10_go wsX10_go) := goodIn_app (goodIn_of _ (by decide +kernel)) ggX10_rules_X10_go
set_option maxRecDepth 20000 in
theorem ggX10_rules_X10_readRule : GoodIn wsX10_rules wsX10_readRule := goodIn_r _ [37, 5, 9, 20, 38, 39, 6, 40, 41, 42, 15, 43, 21, 44, 45, 46, 47, 48, 49, 50, 51, 52, 22, 53, 54, 55, 56, 19, 57, 58, 59, 60, 4, 18, 10, 12, 13, 14, 16, 8, 3, 17, 23, 24, 25, 26, 27, 28, 29, 30, 31, 32, 33, 61, 62, 63, 64, 65, 66, 67, 68, 69, 70, 71, 72, 73, 74, 75, 76, 77, 78, 79, 80, 81, 82, 83, 84, 85, 86, 87, 88, 89, 90, 91, 92, 93, 94, 95, 96, 97] rfl (by decide +kernel)
set_option maxRecDepth 20000 in
theorem gX10_rules_X10_readRule : GoodIn wsX10_rules (wsV RX10 159 RX10 yX10_readRule wsX10_readRule) := goodIn_app (goodIn_of _ (by decide +kernel)) ggX10_rules_X10_readRule
set_option maxRecDepth 20000 in
theorem ggX10_isBidder_X10_isPerson : GoodIn wsX10_isBidder wsX10_isPerson := goodIn_r _ [5, 6, 12, 13, 14, 15, 16, 17, 18, 19, 20, 21, 22, 23, 24, 25, 26, 27, 28, 29, 30, 31, 32, 33, 34, 35, 36, 37, 38, 39, 40, 41, 42, 43, 44, 45, 46, 47, 48] rfl (by decide +kernel)
set_option maxRecDepth 20000 in
theorem gX10_isBidder_X10_isPerson : GoodIn wsX10_isBidder (wsV RX10 172 RX10 yX10_isPerson wsX10_isPerson) := goodIn_app (goodIn_of _ (by decide +kernel)) ggX10_isBidder_X10_isPerson
set_option maxRecDepth 20000 in
theorem ggX10_isBidder_X10_isFund : GoodIn wsX10_isBidder wsX10_isFund := goodIn_r _ [10, 11, 12, 13, 14, 15, 16, 17, 18, 19, 20, 21, 22, 23, 24, 25, 26, 27, 28, 29, 30, 31, 32, 33, 34, 35, 36, 37, 38, 39, 40, 41, 42, 43, 44, 45, 46, 47, 48] rfl (by decide +kernel)
set_option maxRecDepth 20000 in
theorem gX10_isBidder_X10_isFund : GoodIn wsX10_isBidder (wsV RX10 175 RX10 yX10_isFund wsX10_isFund) := goodIn_app (goodIn_of _ (by decide +kernel)) ggX10_isBidder_X10_isFund
set_option maxRecDepth 20000 in
theorem ggX10_work_X10_isIn : GoodIn wsX10_work wsX10_isIn := goodIn_r _ [12] rfl (by decide +kernel)
set_option maxRecDepth 20000 in
theorem gX10_work_X10_isIn : GoodIn wsX10_work (va_wsS RX10 178 yX10_isIn wsX10_isIn) := goodIn_app (goodIn_of _ (by decide +kernel)) ggX10_work_X10_isIn
set_option maxRecDepth 20000 in
theorem ggX10_person_X10_isWork : GoodIn wsX10_person wsX10_isWork := goodIn_r _ [9, 10, 11, 12, 13, 14, 15, 16, 17, 18, 19, 20, 21, 22, 23, 24, 25, 26, 27, 28, 29, 30, 31, 32, 33, 34, 35, 36, 37, 38, 39, 40, 41, 42, 43, 44, 45, 46, 47] rfl (by decide +kernel)
set_option maxRecDepth 20000 in
theorem gX10_person_X10_isWork : GoodIn wsX10_person (wsV RX10 185 RX10 yX10_isWork wsX10_isWork) := goodIn_app (goodIn_of _ (by decide +kernel)) ggX10_person_X10_isWork
set_option maxRecDepth 20000 in
theorem ggX10_fund_X10_isIn : GoodIn wsX10_fund wsX10_isIn := goodIn_r _ [7] rfl (by decide +kernel)
set_option maxRecDepth 20000 in
theorem gX10_fund_X10_isIn : GoodIn wsX10_fund (va_wsS RX10 178 yX10_isIn wsX10_isIn) := goodIn_app (goodIn_of _ (by decide +kernel)) ggX10_fund_X10_isIn
set_option maxRecDepth 20000 in
theorem ggX10_give_X10_isPerson : GoodIn wsX10_give wsX10_isPerson := goodIn_r _ [10, 11, 24, 25, 26, 27, 28, 29, 30, 31, 32, 33, 34, 35, 36, 37, 38, 39, 40, 41, 42, 43, 44, 45, 46, 47, 48, 49, 50, 51, 52, 53, 54, 55, 56, 57, 58, 59, 60] rfl (by decide +kernel)
set_option maxRecDepth 20000 in
theorem gX10_give_X10_isPerson : GoodIn wsX10_give (wsV RX10 172 RX10 yX10_isPerson wsX10_isPerson) := goodIn_app (goodIn_of _ (by decide +kernel)) ggX10_give_X10_isPerson
set_option maxRecDepth 20000 in
theorem ggX10_give_X10_isFund : GoodIn wsX10_give wsX10_isFund := goodIn_r _ [15, 16, 24, 25, 26, 27, 28, 29, 30, 31, 32, 33, 34, 35, 36, 37, 38, 39, 40, 41, 42, 43, 44, 45, 46, 47, 48, 49, 50, 51, 52, 53, 54, 55, 56, 57, 58, 59, 60] rfl (by decide +kernel)
set_option maxRecDepth 20000 in
theorem gX10_give_X10_isFund : GoodIn wsX10_give (wsV RX10 175 RX10 yX10_isFund wsX10_isFund) := goodIn_app (goodIn_of _ (by decide +kernel)) ggX10_give_X10_isFund
set_option maxRecDepth 20000 in
theorem ggX10_give_X10_costs : GoodIn wsX10_give wsX10_costs := goodIn_r _ [20, 21, 22, 23, 24, 25, 26, 27, 28, 29, 30, 31, 32, 33, 34, 35, 36, 37, 38, 39, 40, 41, 42, 43, 44, 45, 46, 47, 48, 49, 50, 51, 52, 53, 54, 55, 56, 57, 58, 59, 60] rfl (by decide +kernel)
set_option maxRecDepth 20000 in
theorem gX10_give_X10_costs : GoodIn wsX10_give (wsV RX10 188 RX10 yX10_costs wsX10_costs) := goodIn_app (goodIn_of _ (by decide +kernel)) ggX10_give_X10_costs
set_option maxRecDepth 20000 in
theorem ggX10_bid_X10_isBidder : GoodIn wsX10_bid wsX10_isBidder := goodIn_r _ [9, 10, 11, 12, 8, 13, 14, 15, 16, 17, 18, 19, 32, 33, 34, 35, 36, 37, 38, 39, 40, 41, 42, 43, 44, 45, 46, 47, 48, 49, 50, 51, 52, 53, 54, 55, 56, 57, 58, 59, 60, 61, 62, 63, 64, 65, 66, 67, 68] rfl (by decide +kernel)
set_option maxRecDepth 20000 in
theorem gX10_bid_X10_isBidder : GoodIn wsX10_bid (wsV RX10 191 RX10 yX10_isBidder wsX10_isBidder) := goodIn_app (goodIn_of _ (by decide +kernel)) ggX10_bid_X10_isBidder
set_option maxRecDepth 20000 in
theorem ggX10_bid_X10_isWork : GoodIn wsX10_bid wsX10_isWork := goodIn_r _ [23, 24, 32, 33, 34, 35, 36, 37, 38, 39, 40, 41, 42, 43, 44, 45, 46, 47, 48, 49, 50, 51, 52, 53, 54, 55, 56, 57, 58, 59, 60, 61, 62, 63, 64, 65, 66, 67, 68] rfl (by decide +kernel)
set_option maxRecDepth 20000 in
theorem gX10_bid_X10_isWork : GoodIn wsX10_bid (wsV RX10 185 RX10 yX10_isWork wsX10_isWork) := goodIn_app (goodIn_of _ (by decide +kernel)) ggX10_bid_X10_isWork
set_option maxRecDepth 20000 in
theorem ggX10_bid_X10_isIn : GoodIn wsX10_bid wsX10_isIn := goodIn_r _ [27] rfl (by decide +kernel)
set_option maxRecDepth 20000 in
theorem gX10_bid_X10_isIn : GoodIn wsX10_bid (va_wsS RX10 178 yX10_isIn wsX10_isIn) := goodIn_app (goodIn_of _ (by decide +kernel)) ggX10_bid_X10_isIn
set_option maxRecDepth 20000 in
theorem ggX10_bid_X10_costs : GoodIn wsX10_bid wsX10_costs := goodIn_r _ [31, 24, 2, 3, 32, 33, 34, 35, 36, 37, 38, 39, 40, 41, 42, 43, 44, 45, 46, 47, 48, 49, 50, 51, 52, 53, 54, 55, 56, 57, 58, 59, 60, 61, 62, 63, 64, 65, 66, 67, 68] rfl (by decide +kernel)
set_option maxRecDepth 20000 in
theorem gX10_bid_X10_costs : GoodIn wsX10_bid (wsV RX10 188 RX10 yX10_costs wsX10_costs) := goodIn_app (goodIn_of _ (by decide +kernel)) ggX10_bid_X10_costs
set_option maxRecDepth 20000 in
theorem ggX10_sellsWork_X10_part : GoodIn wsX10_sellsWork wsX10_part := goodIn_r _ [14, 2, 15, 22, 23, 24, 25, 26, 27, 28, 29, 30, 31, 32, 33, 34, 35, 36, 37, 38, 39, 40, 41, 42, 43, 44, 45, 46, 47, 48, 49, 50, 51, 52, 53, 54, 55, 56, 57, 58] rfl (by decide +kernel)
set_option maxRecDepth 20000 in
theorem gX10_sellsWork_X10_part : GoodIn wsX10_sellsWork (wsV RX10 194 RX10 yX10_part wsX10_part) := goodIn_app (goodIn_of _ (by decide +kernel)) ggX10_sellsWork_X10_part
set_option maxRecDepth 20000 in
theorem ggX10_sellsWork_X10_sells : GoodIn wsX10_sellsWork wsX10_sells := goodIn_r _ [19, 20, 15, 5, 21, 9, 22, 23, 24, 25, 26, 27, 28, 29, 30, 31, 32, 33, 34, 35, 36, 37, 38, 39, 40, 41, 42, 43, 44, 45, 46, 47, 48, 49, 50, 51, 52, 53, 54, 55, 56, 57, 58] rfl (by decide +kernel)
set_option maxRecDepth 20000 in
theorem gX10_sellsWork_X10_sells : GoodIn wsX10_sellsWork (wsV RX10 197 RX10 yX10_sells wsX10_sells) := goodIn_app (goodIn_of _ (by decide +kernel)) ggX10_sellsWork_X10_sells
set_option maxRecDepth 20000 in
theorem ggX10_close_X10_sellsWork : GoodIn wsX10_close wsX10_sellsWork := goodIn_r _ [15, 2, 16, 17, 18, 7, 19, 20, 9, 6, 21, 22, 23, 14, 24, 25, 26, 27, 28, 29, 4, 30, 31, 32, 33, 34, 35, 36, 37, 38, 39, 40, 41, 42, 43, 44, 45, 46, 47, 48, 49, 50, 51, 52, 53, 54, 55, 56, 57, 58, 59, 60, 61, 62, 63, 64, 65, 66, 67] rfl (by decide +kernel)
set_option maxRecDepth 20000 in
theorem gX10_close_X10_sellsWork : GoodIn wsX10_close (wsV RX10 201 RX10 yX10_sellsWork wsX10_sellsWork) := goodIn_app (goodIn_of _ (by decide +kernel)) ggX10_close_X10_sellsWork
set_option maxRecDepth 20000 in
theorem ggX10_about_X10_isWork : GoodIn wsX10_about wsX10_isWork := goodIn_r _ [10, 11, 12, 13, 14, 15, 16, 17, 18, 19, 20, 21, 22, 23, 24, 25, 26, 27, 28, 29, 30, 31, 32, 33, 34, 35, 36, 37, 38, 39, 40, 41, 42, 43, 44, 45, 46, 47, 48] rfl (by decide +kernel)
set_option maxRecDepth 20000 in
theorem gX10_about_X10_isWork : GoodIn wsX10_about (wsV RX10 185 RX10 yX10_isWork wsX10_isWork) := goodIn_app (goodIn_of _ (by decide +kernel)) ggX10_about_X10_isWork
set_option maxRecDepth 20000 in
theorem ggX10_price_X10_isWork : GoodIn wsX10_price wsX10_isWork := goodIn_r _ [9, 10, 11, 12, 13, 14, 15, 16, 17, 18, 19, 20, 21, 22, 23, 24, 25, 26, 27, 28, 29, 30, 31, 32, 33, 34, 35, 36, 37, 38, 39, 40, 41, 42, 43, 44, 45, 46, 47] rfl (by decide +kernel)
set_option maxRecDepth 20000 in
theorem gX10_price_X10_isWork : GoodIn wsX10_price (wsV RX10 185 RX10 yX10_isWork wsX10_isWork) := goodIn_app (goodIn_of _ (by decide +kernel)) ggX10_price_X10_isWork
set_option maxRecDepth 20000 in
theorem ggX10_purse_X10_isBidder : GoodIn wsX10_purse wsX10_isBidder := goodIn_r _ [10, 11, 12, 13, 9, 14, 15, 16, 17, 18, 19, 20, 37, 38, 39, 40, 41, 42, 43, 44, 45, 46, 47, 48, 49, 50, 51, 52, 53, 54, 55, 56, 57, 58, 59, 60, 61, 62, 63, 64, 65, 66, 67, 68, 69, 70, 71, 72, 73] rfl (by decide +kernel)
set_option maxRecDepth 20000 in
theorem gX10_purse_X10_isBidder : GoodIn wsX10_purse (wsV RX10 191 RX10 yX10_isBidder wsX10_isBidder) := goodIn_app (goodIn_of _ (by decide +kernel)) ggX10_purse_X10_isBidder
set_option maxRecDepth 20000 in
theorem ggX10_purse_X10_refuse : GoodIn wsX10_purse wsX10_refuse := goodIn_r _ [24, 1, 37, 38, 39, 40, 41, 42, 43, 44, 45, 46, 47, 48, 49, 50, 51, 52, 53, 54, 55, 56, 57, 58, 59, 60, 61, 62, 63, 64, 65, 66, 67, 68, 69, 70, 71, 72, 73] rfl (by decide +kernel)
set_option maxRecDepth 20000 in
theorem gX10_purse_X10_refuse : GoodIn wsX10_purse (wsV RX10 209 RX10 yX10_refuse wsX10_refuse) := goodIn_app (goodIn_of _ (by decide +kernel)) ggX10_purse_X10_refuse
set_option maxRecDepth 20000 in
theorem ggX10_purse_X10_costs : GoodIn wsX10_purse wsX10_costs := goodIn_r _ [28, 2, 29, 30, 37, 38, 39, 40, 41, 42, 43, 44, 45, 46, 47, 48, 49, 50, 51, 52, 53, 54, 55, 56, 57, 58, 59, 60, 61, 62, 63, 64, 65, 66, 67, 68, 69, 70, 71, 72, 73] rfl (by decide +kernel)
set_option maxRecDepth 20000 in
theorem gX10_purse_X10_costs : GoodIn wsX10_purse (wsV RX10 188 RX10 yX10_costs wsX10_costs) := goodIn_app (goodIn_of _ (by decide +kernel)) ggX10_purse_X10_costs
set_option maxRecDepth 20000 in
theorem ggX10_purse_X10_isFund : GoodIn wsX10_purse wsX10_isFund := goodIn_r _ [19, 20, 37, 38, 39, 40, 41, 42, 43, 44, 45, 46, 47, 48, 49, 50, 51, 52, 53, 54, 55, 56, 57, 58, 59, 60, 61, 62, 63, 64, 65, 66, 67, 68, 69, 70, 71, 72, 73] rfl (by decide +kernel)
set_option maxRecDepth 20000 in
theorem gX10_purse_X10_isFund : GoodIn wsX10_purse (wsV RX10 175 RX10 yX10_isFund wsX10_isFund) := goodIn_app (goodIn_of _ (by decide +kernel)) ggX10_purse_X10_isFund
set_option maxRecDepth 20000 in
theorem ggX10_purse_X10_isKept : GoodIn wsX10_purse wsX10_isKept := goodIn_r _ [34, 4, 2, 3, 30, 35, 36, 5, 37, 38, 39, 40, 41, 42, 43, 44, 45, 46, 47, 48, 49, 50, 51, 52, 53, 54, 55, 56, 57, 58, 59, 60, 61, 62, 63, 64, 65, 66, 67, 68, 69, 70, 71, 72, 73] rfl (by decide +kernel)
set_option maxRecDepth 20000 in
theorem gX10_purse_X10_isKept : GoodIn wsX10_purse (wsV RX10 212 RX10 yX10_isKept wsX10_isKept) := goodIn_app (goodIn_of _ (by decide +kernel)) ggX10_purse_X10_isKept
set_option maxRecDepth 20000 in
theorem ggX10_holds_X10_isBidder : GoodIn wsX10_holds wsX10_isBidder := goodIn_r _ [6, 7, 8, 9, 5, 10, 11, 12, 13, 14, 15, 16, 33, 34, 35, 36, 37, 38, 39, 40, 41, 42, 43, 44, 45, 46, 47, 48, 49, 50, 51, 52, 53, 54, 55, 56, 57, 58, 59, 60, 61, 62, 63, 64, 65, 66, 67, 68, 69] rfl (by decide +kernel)
set_option maxRecDepth 20000 in
theorem gX10_holds_X10_isBidder : GoodIn wsX10_holds (wsV RX10 191 RX10 yX10_isBidder wsX10_isBidder) := goodIn_app (goodIn_of _ (by decide +kernel)) ggX10_holds_X10_isBidder
set_option maxRecDepth 20000 in
theorem ggX10_holds_X10_isWork : GoodIn wsX10_holds wsX10_isWork := goodIn_r _ [20, 21, 33, 34, 35, 36, 37, 38, 39, 40, 41, 42, 43, 44, 45, 46, 47, 48, 49, 50, 51, 52, 53, 54, 55, 56, 57, 58, 59, 60, 61, 62, 63, 64, 65, 66, 67, 68, 69] rfl (by decide +kernel)
set_option maxRecDepth 20000 in
theorem gX10_holds_X10_isWork : GoodIn wsX10_holds (wsV RX10 185 RX10 yX10_isWork wsX10_isWork) := goodIn_app (goodIn_of _ (by decide +kernel)) ggX10_holds_X10_isWork
set_option maxRecDepth 20000 in
theorem ggX10_holds_X10_isRound : GoodIn wsX10_holds wsX10_isRound := goodIn_r _ [25, 26, 33, 34, 35, 36, 37, 38, 39, 40, 41, 42, 43, 44, 45, 46, 47, 48, 49, 50, 51, 52, 53, 54, 55, 56, 57, 58, 59, 60, 61, 62, 63, 64, 65, 66, 67, 68, 69] rfl (by decide +kernel)
set_option maxRecDepth 20000 in
theorem gX10_holds_X10_isRound : GoodIn wsX10_holds (wsV RX10 215 RX10 yX10_isRound wsX10_isRound) := goodIn_app (goodIn_of _ (by decide +kernel)) ggX10_holds_X10_isRound
set_option maxRecDepth 20000 in
theorem ggX10_holds_X10_heldAsOf : GoodIn wsX10_holds wsX10_heldAsOf := goodIn_r _ [30, 26, 31, 32, 33, 34, 35, 36, 37, 38, 39, 40, 41, 42, 43, 44, 45, 46, 47, 48, 49, 50, 51, 52, 53, 54, 55, 56, 57, 58, 59, 60, 61, 62, 63, 64, 65, 66, 67, 68, 69] rfl (by decide +kernel)
set_option maxRecDepth 20000 in
theorem gX10_holds_X10_heldAsOf : GoodIn wsX10_holds (wsV RX10 218 RX10 yX10_heldAsOf wsX10_heldAsOf) := goodIn_app (goodIn_of _ (by decide +kernel)) ggX10_holds_X10_heldAsOf
set_option maxRecDepth 20000 in
theorem ggX10_asks_X10_isBidder : GoodIn wsX10_asks wsX10_isBidder := goodIn_r _ [7, 8, 9, 10, 6, 11, 12, 13, 14, 15, 16, 17, 23, 24, 25, 26, 27, 28, 29, 30, 31, 32, 33, 34, 35, 36, 37, 38, 39, 40, 41, 42, 43, 44, 45, 46, 47, 48, 49, 50, 51, 52, 53, 54, 55, 56, 57, 58, 59] rfl (by decide +kernel)
set_option maxRecDepth 20000 in
theorem gX10_asks_X10_isBidder : GoodIn wsX10_asks (wsV RX10 191 RX10 yX10_isBidder wsX10_isBidder) := goodIn_app (goodIn_of _ (by decide +kernel)) ggX10_asks_X10_isBidder
set_option maxRecDepth 20000 in
theorem ggX10_asks_X10_isWork : GoodIn wsX10_asks wsX10_isWork := goodIn_r _ [21, 22, 23, 24, 25, 26, 27, 28, 29, 30, 31, 32, 33, 34, 35, 36, 37, 38, 39, 40, 41, 42, 43, 44, 45, 46, 47, 48, 49, 50, 51, 52, 53, 54, 55, 56, 57, 58, 59] rfl (by decide +kernel)
set_option maxRecDepth 20000 in
theorem gX10_asks_X10_isWork : GoodIn wsX10_asks (wsV RX10 185 RX10 yX10_isWork wsX10_isWork) := goodIn_app (goodIn_of _ (by decide +kernel)) ggX10_asks_X10_isWork
set_option maxRecDepth 20000 in
theorem ggX10_owned_X10_isPerson : GoodIn wsX10_owned wsX10_isPerson := goodIn_r _ [10, 11, 35, 36, 37, 38, 39, 40, 41, 42, 43, 44, 45, 46, 47, 48, 49, 50, 51, 52, 53, 54, 55, 56, 57, 58, 59, 60, 61, 62, 63, 64, 65, 66, 67, 68, 69, 70, 71] rfl (by decide +kernel)
set_option maxRecDepth 20000 in
theorem gX10_owned_X10_isPerson : GoodIn wsX10_owned (wsV RX10 172 RX10 yX10_isPerson wsX10_isPerson) := goodIn_app (goodIn_of _ (by decide +kernel)) ggX10_owned_X10_isPerson
set_option maxRecDepth 20000 in
theorem ggX10_owned_X10_isWork : GoodIn wsX10_owned wsX10_isWork := goodIn_r _ [15, 16, 35, 36, 37, 38, 39, 40, 41, 42, 43, 44, 45, 46, 47, 48, 49, 50, 51, 52, 53, 54, 55, 56, 57, 58, 59, 60, 61, 62, 63, 64, 65, 66, 67, 68, 69, 70, 71] rfl (by decide +kernel)
set_option maxRecDepth 20000 in
theorem gX10_owned_X10_isWork : GoodIn wsX10_owned (wsV RX10 185 RX10 yX10_isWork wsX10_isWork) := goodIn_app (goodIn_of _ (by decide +kernel)) ggX10_owned_X10_isWork
set_option maxRecDepth 20000 in
theorem ggX10_owned_X10_isRound : GoodIn wsX10_owned wsX10_isRound := goodIn_r _ [20, 21, 35, 36, 37, 38, 39, 40, 41, 42, 43, 44, 45, 46, 47, 48, 49, 50, 51, 52, 53, 54, 55, 56, 57, 58, 59, 60, 61, 62, 63, 64, 65, 66, 67, 68, 69, 70, 71] rfl (by decide +kernel)
set_option maxRecDepth 20000 in
theorem gX10_owned_X10_isRound : GoodIn wsX10_owned (wsV RX10 215 RX10 yX10_isRound wsX10_isRound) := goodIn_app (goodIn_of _ (by decide +kernel)) ggX10_owned_X10_isRound
set_option maxRecDepth 20000 in
theorem ggX10_owned_X10_refuse : GoodIn wsX10_owned wsX10_refuse := goodIn_r _ [25, 1, 35, 36, 37, 38, 39, 40, 41, 42, 43, 44, 45, 46, 47, 48, 49, 50, 51, 52, 53, 54, 55, 56, 57, 58, 59, 60, 61, 62, 63, 64, 65, 66, 67, 68, 69, 70, 71] rfl (by decide +kernel)
set_option maxRecDepth 20000 in
theorem gX10_owned_X10_refuse : GoodIn wsX10_owned (wsV RX10 209 RX10 yX10_refuse wsX10_refuse) := goodIn_app (goodIn_of _ (by decide +kernel)) ggX10_owned_X10_refuse
set_option maxRecDepth 20000 in
theorem ggX10_owned_X10_heldAsOf : GoodIn wsX10_owned wsX10_heldAsOf := goodIn_r _ [29, 21, 30, 31, 35, 36, 37, 38, 39, 40, 41, 42, 43, 44, 45, 46, 47, 48, 49, 50, 51, 52, 53, 54, 55, 56, 57, 58, 59, 60, 61, 62, 63, 64, 65, 66, 67, 68, 69, 70, 71] rfl (by decide +kernel)
set_option maxRecDepth 20000 in
theorem gX10_owned_X10_heldAsOf : GoodIn wsX10_owned (wsV RX10 218 RX10 yX10_heldAsOf wsX10_heldAsOf) := goodIn_app (goodIn_of _ (by decide +kernel)) ggX10_owned_X10_heldAsOf
set_option maxRecDepth 20000 in
theorem ggX10_owned_X10_common : GoodIn wsX10_owned wsX10_common := goodIn_r _ [34] rfl (by decide +kernel)
set_option maxRecDepth 20000 in
theorem gX10_owned_X10_common : GoodIn wsX10_owned (va_wsS RX10 222 yX10_common wsX10_common) := goodIn_app (goodIn_of _ (by decide +kernel)) ggX10_owned_X10_common
