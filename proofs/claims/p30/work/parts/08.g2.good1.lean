set_option maxRecDepth 20000 in
theorem ggX8_runCommands_X8_carryOutText_1 : GoodIn wsX8_runCommands ((wsX8_carryOutText).drop 168) := goodIn_r _ [152, 223, 224, 225, 226, 144, 153, 227, 228, 229, 230, 231, 232, 233, 234, 235, 236, 237, 238, 239, 240, 241, 242, 243, 244, 245, 246, 247, 126, 248, 249, 250, 157, 251, 159, 162, 164, 165, 252, 253, 254, 255, 118, 256, 257, 258, 259, 260, 261, 262, 263, 264, 265, 266, 267, 268, 269, 270, 271, 272, 273, 274, 275, 276, 277, 278, 279, 280, 281, 282, 283, 284, 285, 286, 287, 288, 289, 290, 291, 160, 163, 166, 292, 293, 294, 295, 296, 297, 298, 299, 300, 301, 302, 303, 304, 305, 306, 307, 308, 309, 310, 311, 312, 313, 314, 315, 316, 317, 318, 319, 320, 321, 322, 323, 324, 325, 326, 327, 328, 329, 330, 331, 332, 333, 334, 335, 336, 337, 338, 339, 344, 345, 346, 347, 348, 349, 350, 351, 352, 355, 356, 357, 358, 359, 360, 361, 362, 363, 364, 365, 366, 367, 368, 369, 370, 371, 372, 373, 374, 375, 376, 377, 378, 379, 380, 381, 382] (by decide +kernel) (by decide +kernel)
theorem ggX8_runCommands_X8_carryOutText : GoodIn wsX8_runCommands wsX8_carryOutText := (goodIn_td 168 ggX8_runCommands_X8_carryOutText_0 ggX8_runCommands_X8_carryOutText_1)
set_option maxRecDepth 20000 in
theorem gX8_runCommands_X8_carryOutText : GoodIn wsX8_runCommands (wsV RX8 203 RX8 yX8_carryOutText wsX8_carryOutText) := goodIn_app (goodIn_of _ (by decide +kernel)) ggX8_runCommands_X8_carryOutText
set_option maxRecDepth 20000 in
theorem ggX8_runCommands_X4_keep : GoodIn wsX8_runCommands wsX4_keep := goodIn_r _ [343, 111, 110, 353, 354] (by decide +kernel) (by decide +kernel)
set_option maxRecDepth 20000 in
theorem gX8_runCommands_X4_keep : GoodIn wsX8_runCommands (wsV RX8 206 RX4 yX4_keep wsX4_keep) := goodIn_app (goodIn_of _ (by decide +kernel)) ggX8_runCommands_X4_keep
set_option maxRecDepth 20000 in
theorem ggX8_undo_X4_restore : GoodIn wsX8_undo wsX4_restore := goodIn_r _ [10, 11, 12, 13, 14, 15, 16, 17, 18, 19, 20, 21, 22, 23, 24, 25, 26, 27, 28, 29, 30, 31, 32, 33, 34, 35, 36, 37, 38, 39, 40, 41, 42, 43, 44, 45, 46, 47, 48, 49, 50, 51, 52, 53, 54, 55, 56, 57, 58, 59, 60, 61, 62, 63, 64, 65, 66, 67, 72, 73, 74, 75, 76, 77, 78, 79, 80, 81, 82, 83, 84, 85, 86, 87, 88, 89, 90, 91, 92, 93, 94, 95, 96, 97, 98, 99, 100, 101] (by decide +kernel) (by decide +kernel)
set_option maxRecDepth 20000 in
theorem gX8_undo_X4_restore : GoodIn wsX8_undo (wsV RX8 214 RX4 yX4_restore wsX4_restore) := goodIn_app (goodIn_of _ (by decide +kernel)) ggX8_undo_X4_restore
set_option maxRecDepth 20000 in
theorem ggX8_digest_X8_mix : GoodIn wsX8_digest wsX8_mix := goodIn_r _ [9, 10] (by decide +kernel) (by decide +kernel)
set_option maxRecDepth 20000 in
theorem gX8_digest_X8_mix : GoodIn wsX8_digest (va_wsS RX8 220 yX8_mix wsX8_mix) := goodIn_app (goodIn_of _ (by decide +kernel)) ggX8_digest_X8_mix
set_option maxRecDepth 20000 in
theorem ggX8_digest_X8_wholeValue : GoodIn wsX8_digest wsX8_wholeValue := goodIn_r _ [14, 15, 16, 4, 17, 18, 19, 20, 21, 22, 23, 24, 25, 26, 27, 28, 29, 30, 31, 32, 33, 34, 35, 36, 37, 38, 39, 40, 41, 42, 43, 44, 45, 8, 46, 47, 48, 49, 50, 51, 52, 53, 54, 55, 56, 57, 58, 59, 60, 61, 62, 63, 64, 65, 66, 67, 68, 69, 70, 71, 72, 73, 74, 75, 76, 77, 78, 79, 159, 160, 161, 162, 171, 172, 173, 174, 175, 165, 166, 167, 168, 169, 170, 176, 177, 178, 179, 180, 181, 182, 183, 184, 185, 186, 187, 188, 189, 190, 191, 192, 193, 194, 195, 196, 197] (by decide +kernel) (by decide +kernel)
set_option maxRecDepth 20000 in
theorem gX8_digest_X8_wholeValue : GoodIn wsX8_digest (wsV RX8 140 RX8 yX8_wholeValue wsX8_wholeValue) := goodIn_app (goodIn_of _ (by decide +kernel)) ggX8_digest_X8_wholeValue
set_option maxRecDepth 20000 in
theorem ggX8_digest_X8_asNumber : GoodIn wsX8_digest wsX8_asNumber := goodIn_r _ [46] (by decide +kernel) (by decide +kernel)
set_option maxRecDepth 20000 in
theorem gX8_digest_X8_asNumber : GoodIn wsX8_digest (va_wsS RX8 136 yX8_asNumber wsX8_asNumber) := goodIn_app (goodIn_of _ (by decide +kernel)) ggX8_digest_X8_asNumber
set_option maxRecDepth 20000 in
theorem ggX8_digest_X8_mixTeams : GoodIn wsX8_digest wsX8_mixTeams := goodIn_r _ [84, 4, 85, 86, 87, 88, 89, 20, 90, 22, 51, 24, 31, 32, 26, 29, 91, 92, 93, 62, 94, 64, 95, 96, 97, 98, 99, 100, 65, 101, 102, 103, 36, 104, 38, 105, 39, 106, 107, 108, 109, 78, 70, 71, 72, 73, 74, 75, 76, 77, 79, 45, 8, 46, 110, 111, 112, 113, 114, 6, 7, 9, 10, 115, 116, 117, 118, 119, 120, 121, 122, 123, 124, 125, 126, 127, 28, 159, 160, 161, 162, 165, 166, 167, 168, 169, 170, 176, 177, 178, 179, 180, 181, 182, 183, 184, 185, 186, 187, 188, 189, 190, 191, 192, 193, 194, 195, 196, 197] (by decide +kernel) (by decide +kernel)
set_option maxRecDepth 20000 in
theorem gX8_digest_X8_mixTeams : GoodIn wsX8_digest (wsV RX8 224 RX8 yX8_mixTeams wsX8_mixTeams) := goodIn_app (goodIn_of _ (by decide +kernel)) ggX8_digest_X8_mixTeams
set_option maxRecDepth 20000 in
theorem ggX8_digest_X8_mixChanges : GoodIn wsX8_digest wsX8_mixChanges := goodIn_r _ [131, 4, 132, 133, 134, 135, 136, 137, 138, 62, 139, 95, 140, 65, 96, 141, 114, 142, 6, 7, 8, 9, 10, 159, 160, 161, 162, 165, 166, 167, 168, 169, 170, 181, 182, 183, 184, 185, 186, 187, 188, 189, 190] (by decide +kernel) (by decide +kernel)
set_option maxRecDepth 20000 in
theorem gX8_digest_X8_mixChanges : GoodIn wsX8_digest (wsV RX8 228 RX8 yX8_mixChanges wsX8_mixChanges) := goodIn_app (goodIn_of _ (by decide +kernel)) ggX8_digest_X8_mixChanges
set_option maxRecDepth 20000 in
theorem ggX8_digest_X8_mixLoans : GoodIn wsX8_digest wsX8_mixLoans := goodIn_r _ [146, 4, 147, 148, 149, 150, 151, 36, 152, 105, 78, 153, 39, 79, 154, 6, 7, 8, 9, 10, 159, 160, 161, 162, 165, 166, 167, 168, 169, 170, 191, 192, 193, 194, 195, 196, 197] (by decide +kernel) (by decide +kernel)
set_option maxRecDepth 20000 in
theorem gX8_digest_X8_mixLoans : GoodIn wsX8_digest (wsV RX8 231 RX8 yX8_mixLoans wsX8_mixLoans) := goodIn_app (goodIn_of _ (by decide +kernel)) ggX8_digest_X8_mixLoans
set_option maxRecDepth 20000 in
theorem ggX8_digest_X1_firstThaw : GoodIn wsX8_digest wsX1_firstThaw := goodIn_r _ [158, 29, 44, 165, 166, 167, 168, 169, 170] (by decide +kernel) (by decide +kernel)
set_option maxRecDepth 20000 in
theorem gX8_digest_X1_firstThaw : GoodIn wsX8_digest (wsV RX8 176 RX1 yX1_firstThaw wsX1_firstThaw) := goodIn_app (goodIn_of _ (by decide +kernel)) ggX8_digest_X1_firstThaw
set_option maxRecDepth 20000 in
theorem ggX8_settle_X4_keep : GoodIn wsX8_settle wsX4_keep := goodIn_r _ [12, 13, 14, 19, 20] (by decide +kernel) (by decide +kernel)
set_option maxRecDepth 20000 in
theorem gX8_settle_X4_keep : GoodIn wsX8_settle (wsV RX8 206 RX4 yX4_keep wsX4_keep) := goodIn_app (goodIn_of _ (by decide +kernel)) ggX8_settle_X4_keep
set_option maxRecDepth 20000 in
theorem ggX8_needTeam_X6_has : GoodIn wsX8_needTeam wsX6_has := goodIn_r _ [9, 10, 21, 22, 23, 24, 25] (by decide +kernel) (by decide +kernel)
set_option maxRecDepth 20000 in
theorem gX8_needTeam_X6_has : GoodIn wsX8_needTeam (wsV RX8 240 RX6 yX6_has wsX6_has) := goodIn_app (goodIn_of _ (by decide +kernel)) ggX8_needTeam_X6_has
set_option maxRecDepth 20000 in
theorem ggX8_needChange_X2_has : GoodIn wsX8_needChange wsX2_has := goodIn_r _ [9, 10, 21, 22, 23, 24, 25, 26, 27, 28, 29, 30] (by decide +kernel) (by decide +kernel)
set_option maxRecDepth 20000 in
theorem gX8_needChange_X2_has : GoodIn wsX8_needChange (wsV RX8 243 RX2 yX2_has wsX2_has) := goodIn_app (goodIn_of _ (by decide +kernel)) ggX8_needChange_X2_has
set_option maxRecDepth 20000 in
theorem ggX8_needRisk_X8_isRisk : GoodIn wsX8_needRisk wsX8_isRisk := goodIn_r _ [6] (by decide +kernel) (by decide +kernel)
set_option maxRecDepth 20000 in
theorem gX8_needRisk_X8_isRisk : GoodIn wsX8_needRisk (va_wsS RX8 246 yX8_isRisk wsX8_isRisk) := goodIn_app (goodIn_of _ (by decide +kernel)) ggX8_needRisk_X8_isRisk
set_option maxRecDepth 20000 in
theorem ggX8_wholeValue_X1_valueOfAll : GoodIn wsX8_wholeValue wsX1_valueOfAll := goodIn_r _ [8, 9, 10, 11, 12, 13, 14, 15, 16, 17, 18, 19, 20, 21, 22, 23, 24, 25, 26, 27, 28, 29, 7, 30, 31, 32, 33, 34, 35, 36, 37, 38, 39, 40, 41, 42, 43, 44, 45, 46, 47, 48, 49, 50, 51, 52, 53, 54, 55, 56, 57, 58, 59, 60, 61, 62, 63, 64, 65, 66, 67, 77, 78, 79, 80, 81, 82, 83, 84, 85, 86, 87, 88, 89, 90, 91, 92, 93, 94, 95, 96, 97, 98, 99, 100, 101, 102, 103, 104] (by decide +kernel) (by decide +kernel)
set_option maxRecDepth 20000 in
theorem gX8_wholeValue_X1_valueOfAll : GoodIn wsX8_wholeValue (wsV RX8 253 RX1 yX1_valueOfAll wsX1_valueOfAll) := goodIn_app (goodIn_of _ (by decide +kernel)) ggX8_wholeValue_X1_valueOfAll
set_option maxRecDepth 20000 in
theorem ggX8_carryOutText_X3_rewind : GoodIn wsX8_carryOutText wsX3_rewind := goodIn_r _ [8, 9, 302, 303, 304, 305, 306] (by decide +kernel) (by decide +kernel)
set_option maxRecDepth 20000 in
theorem gX8_carryOutText_X3_rewind : GoodIn wsX8_carryOutText (wsV RX8 256 RX3 yX3_rewind wsX3_rewind) := goodIn_app (goodIn_of _ (by decide +kernel)) ggX8_carryOutText_X3_rewind
set_option maxRecDepth 20000 in
theorem ggX8_carryOutText_X3_hasMore : GoodIn wsX8_carryOutText wsX3_hasMore := goodIn_r _ [13, 9, 14, 15, 16, 17, 7, 18, 19, 302, 303, 304, 305, 306] (by decide +kernel) (by decide +kernel)
set_option maxRecDepth 20000 in
theorem gX8_carryOutText_X3_hasMore : GoodIn wsX8_carryOutText (wsV RX8 259 RX3 yX3_hasMore wsX3_hasMore) := goodIn_app (goodIn_of _ (by decide +kernel)) ggX8_carryOutText_X3_hasMore
set_option maxRecDepth 20000 in
theorem ggX8_carryOutText_X3_readCommand : GoodIn wsX8_carryOutText wsX3_readCommand := goodIn_r _ [23, 9, 24, 25, 26, 27, 28, 7, 29, 14, 19, 30, 31, 32, 33, 34, 35, 36, 37, 38, 39, 40, 41, 42, 43, 44, 45, 46, 47, 48, 49, 50, 51, 52, 53, 54, 55, 56, 57, 58, 59, 60, 61, 62, 63, 64, 65, 66, 67, 68, 69, 70, 71, 72, 73, 74, 75, 76, 77, 78, 79, 80, 81, 82, 83, 84, 85, 86, 87, 88, 89, 90, 91, 92, 93, 94, 95, 96, 97, 15, 16, 17, 18, 98, 99, 100, 302, 303, 304, 305, 306] (by decide +kernel) (by decide +kernel)
set_option maxRecDepth 20000 in
theorem gX8_carryOutText_X3_readCommand : GoodIn wsX8_carryOutText (wsV RX8 263 RX3 yX3_readCommand wsX3_readCommand) := goodIn_app (goodIn_of _ (by decide +kernel)) ggX8_carryOutText_X3_readCommand
set_option maxRecDepth 20000 in
theorem ggX8_carryOutText_X8_carryOut : GoodIn wsX8_carryOutText wsX8_carryOut := goodIn_r _ [105, 106, 107, 108, 109, 110, 111, 112, 113, 114, 115, 116, 117, 118, 119, 120, 121, 122, 123, 124, 125, 126, 127, 128, 129, 130, 131, 132, 133, 134, 135, 136, 137, 138, 139, 140, 141, 142, 104, 143, 144, 145, 146, 147, 148, 149, 150, 151, 152, 153, 154, 155, 156, 157, 158, 159, 160, 161, 162, 163, 164, 165, 166, 167, 168, 169, 170, 171, 172, 173, 174, 175, 176, 177, 178, 179, 180, 181, 182, 183, 184, 185, 186, 187, 188, 189, 190, 191, 192, 193, 194, 195, 196, 197, 198, 199, 200, 201, 202, 203, 204, 205, 206, 207, 208, 209, 210, 211, 212, 213, 214, 215, 216, 217, 218, 219, 220, 221, 222, 223, 224, 225, 226, 227, 228, 229, 230, 231, 232, 233, 234, 235, 236, 237, 238, 239, 240, 241, 242, 243, 244, 245, 246, 247, 248, 249, 250, 251, 252, 253, 254, 255, 256, 257, 258, 259, 260, 261, 262, 263, 264, 265, 266, 267, 268, 269, 270, 271, 272, 273, 274, 275, 276, 277, 278, 279, 280, 281, 282, 283, 284, 285, 286, 287, 288, 289, 290, 291, 292, 293, 294, 295, 296, 297, 298, 299, 300, 301, 307, 308, 309, 310, 311, 312, 313, 314, 315, 316, 317, 318, 319, 320, 321, 322, 323, 324, 325, 326, 327, 328, 329, 330, 331, 332, 333, 334] (by decide +kernel) (by decide +kernel)
set_option maxRecDepth 20000 in
theorem gX8_carryOutText_X8_carryOut : GoodIn wsX8_carryOutText (wsV RX8 273 RX8 yX8_carryOut wsX8_carryOut) := goodIn_app (goodIn_of _ (by decide +kernel)) ggX8_carryOutText_X8_carryOut
set_option maxRecDepth 20000 in
theorem ggX8_carryOut_Jx29ce0_ordinal_8abf5 : GoodIn wsX8_carryOut wsJx29ce0_ordinal_8abf5 := goodIn_r _ [8, 9] (by decide +kernel) (by decide +kernel)
set_option maxRecDepth 20000 in
set_option maxRecDepth 20000 in
theorem ggX8_carryOut_X1_bringTeam : GoodIn wsX8_carryOut wsX1_bringTeam := goodIn_r _ [14, 15, 16, 17, 18, 19, 20, 21, 22, 23, 24, 25, 26, 198, 199, 200, 201, 202, 203, 204, 205, 206, 207, 208] (by decide +kernel) (by decide +kernel)
set_option maxRecDepth 20000 in
theorem gX8_carryOut_X1_bringTeam : GoodIn wsX8_carryOut (wsV RX8 37 RX1 yX1_bringTeam wsX1_bringTeam) := goodIn_app (goodIn_of _ (by decide +kernel)) ggX8_carryOut_X1_bringTeam
set_option maxRecDepth 20000 in
theorem ggX8_carryOut_X1_markWeeks : GoodIn wsX8_carryOut wsX1_markWeeks := goodIn_r _ [30, 31, 32, 33, 34, 35, 13, 36, 37, 38, 39, 198, 199, 200, 201, 202, 203] (by decide +kernel) (by decide +kernel)
set_option maxRecDepth 20000 in
theorem gX8_carryOut_X1_markWeeks : GoodIn wsX8_carryOut (wsV RX8 44 RX1 yX1_markWeeks wsX1_markWeeks) := goodIn_app (goodIn_of _ (by decide +kernel)) ggX8_carryOut_X1_markWeeks
set_option maxRecDepth 20000 in
theorem ggX8_carryOut_X1_enterChange : GoodIn wsX8_carryOut wsX1_enterChange := goodIn_r _ [43, 15, 44, 45, 31, 46, 47, 48, 20, 49, 22, 50, 38, 51, 52, 53, 54, 55, 56, 57, 58, 59, 60, 61, 62, 63, 64, 65, 66, 67, 68, 69, 70, 198, 199, 200, 201, 202, 203, 209, 210, 211, 212, 213, 214, 215, 216, 217, 218, 204, 205, 206, 207, 208] (by decide +kernel) (by decide +kernel)
set_option maxRecDepth 20000 in
theorem gX8_carryOut_X1_enterChange : GoodIn wsX8_carryOut (wsV RX8 56 RX1 yX1_enterChange wsX1_enterChange) := goodIn_app (goodIn_of _ (by decide +kernel)) ggX8_carryOut_X1_enterChange
set_option maxRecDepth 20000 in
theorem ggX8_carryOut_X1_exemptChange : GoodIn wsX8_carryOut wsX1_exemptChange := goodIn_r _ [74, 44, 75, 15, 76, 77, 78, 79, 80, 81, 82, 55, 83, 57, 84, 85, 86, 13, 87, 88, 89, 90, 91, 92, 31, 93, 94, 95, 96, 97, 98, 99, 100, 101, 102, 103, 104, 105, 106, 198, 199, 200, 201, 202, 203, 209, 210, 211, 212, 213, 214, 215, 216, 217, 218, 204, 205, 206, 207, 208, 219, 220, 221, 222, 223, 224, 225] (by decide +kernel) (by decide +kernel)
set_option maxRecDepth 20000 in
theorem gX8_carryOut_X1_exemptChange : GoodIn wsX8_carryOut (wsV RX8 59 RX1 yX1_exemptChange wsX1_exemptChange) := goodIn_app (goodIn_of _ (by decide +kernel)) ggX8_carryOut_X1_exemptChange
set_option maxRecDepth 20000 in
theorem ggX8_carryOut_X1_makeChange : GoodIn wsX8_carryOut wsX1_makeChange := goodIn_r _ [110, 44, 79, 32, 31, 111, 112, 77, 15, 76, 106, 75, 113, 114, 115, 116, 117, 80, 81, 82, 55, 83, 57, 118, 119, 120, 121, 60, 37, 38, 39, 122, 123, 124, 125, 61, 126, 127, 128, 129, 69, 70, 198, 199, 200, 201, 202, 203, 209, 210, 211, 212, 213, 214, 215, 216, 217, 218, 204, 205, 206, 207, 208] (by decide +kernel) (by decide +kernel)
set_option maxRecDepth 20000 in
theorem gX8_carryOut_X1_makeChange : GoodIn wsX8_carryOut (wsV RX8 62 RX1 yX1_makeChange wsX1_makeChange) := goodIn_app (goodIn_of _ (by decide +kernel)) ggX8_carryOut_X1_makeChange
set_option maxRecDepth 20000 in
theorem ggX8_carryOut_X1_dropChange : GoodIn wsX8_carryOut wsX1_dropChange := goodIn_r _ [133, 44, 15, 76, 77, 80, 81, 82, 55, 83, 57, 118, 119, 120, 121, 60, 122, 123, 124, 125, 61, 126, 127, 128, 129, 69, 70, 198, 199, 200, 201, 202, 203, 204, 205, 206, 207, 208, 209, 210, 211, 212, 213, 214, 215, 216, 217, 218] (by decide +kernel) (by decide +kernel)
set_option maxRecDepth 20000 in
theorem gX8_carryOut_X1_dropChange : GoodIn wsX8_carryOut (wsV RX8 66 RX1 yX1_dropChange wsX1_dropChange) := goodIn_app (goodIn_of _ (by decide +kernel)) ggX8_carryOut_X1_dropChange
set_option maxRecDepth 20000 in
theorem ggX8_carryOut_X1_lendCredits : GoodIn wsX8_carryOut wsX1_lendCredits := goodIn_r _ [137, 15, 31, 92, 138, 76, 46, 47, 48, 20, 49, 22, 88, 89, 90, 13, 91, 93, 94, 95, 96, 97, 98, 99, 100, 101, 139, 140, 141, 142, 143, 144, 145, 198, 199, 200, 201, 202, 203, 219, 220, 221, 222, 223, 224, 225, 204, 205, 206, 207, 208] (by decide +kernel) (by decide +kernel)
set_option maxRecDepth 20000 in
theorem gX8_carryOut_X1_lendCredits : GoodIn wsX8_carryOut (wsV RX8 69 RX1 yX1_lendCredits wsX1_lendCredits) := goodIn_app (goodIn_of _ (by decide +kernel)) ggX8_carryOut_X1_lendCredits
set_option maxRecDepth 20000 in
theorem ggX8_carryOut_X1_repayLoan : GoodIn wsX8_carryOut wsX1_repayLoan := goodIn_r _ [149, 92, 150, 151, 152, 153, 96, 154, 98, 155, 156, 157, 13, 158, 15, 76, 159, 160, 161, 162, 163, 164, 198, 199, 200, 201, 202, 203, 219, 220, 221, 222, 223, 224, 225, 204, 205, 206, 207, 208] (by decide +kernel) (by decide +kernel)
set_option maxRecDepth 20000 in
theorem gX8_carryOut_X1_repayLoan : GoodIn wsX8_carryOut (wsV RX8 73 RX1 yX1_repayLoan wsX1_repayLoan) := goodIn_app (goodIn_of _ (by decide +kernel)) ggX8_carryOut_X1_repayLoan
set_option maxRecDepth 20000 in
theorem ggX8_carryOut_X1_changeSetting : GoodIn wsX8_carryOut wsX1_changeSetting := goodIn_r _ [168, 106, 198, 199, 200, 201, 202, 203] (by decide +kernel) (by decide +kernel)
set_option maxRecDepth 20000 in
theorem gX8_carryOut_X1_changeSetting : GoodIn wsX8_carryOut (wsV RX8 48 RX1 yX1_changeSetting wsX1_changeSetting) := goodIn_app (goodIn_of _ (by decide +kernel)) ggX8_carryOut_X1_changeSetting
set_option maxRecDepth 20000 in
theorem ggX8_carryOut_X1_closeWeek : GoodIn wsX8_carryOut wsX1_closeWeek := goodIn_r _ [172, 31, 173, 174, 175, 13, 176, 15, 16, 44, 106, 177, 178, 179, 55, 180, 57, 58, 60, 63, 181, 182, 183, 20, 184, 23, 185, 114, 115, 116, 186, 187, 188, 25, 189, 190, 191, 192, 92, 138, 193, 150, 113, 155, 156, 157, 158, 76, 159, 160, 161, 162, 163, 164, 198, 199, 200, 201, 202, 203, 204, 205, 206, 207, 208, 209, 210, 211, 212, 213, 214, 215, 216, 217, 218, 219, 220, 221, 222, 223, 224, 225] (by decide +kernel) (by decide +kernel)
set_option maxRecDepth 20000 in
theorem gX8_carryOut_X1_closeWeek : GoodIn wsX8_carryOut (wsV RX8 52 RX1 yX1_closeWeek wsX1_closeWeek) := goodIn_app (goodIn_of _ (by decide +kernel)) ggX8_carryOut_X1_closeWeek
set_option maxRecDepth 20000 in
theorem ggX8_mixTeams_X1_teamValue : GoodIn wsX8_mixTeams wsX1_teamValue := goodIn_r _ [8, 9, 10, 11, 12, 13, 14, 15, 16, 17, 18, 19, 20, 21, 22, 23, 24, 25, 26, 27, 28, 29, 30, 31, 32, 33, 34, 35, 36, 37, 38, 39, 40, 41, 42, 43, 44, 7, 45, 46, 47, 48, 49, 50, 51, 52, 53, 54, 55, 56, 57, 58, 81, 82, 83, 84, 85, 86, 87, 88, 89, 90, 91, 92, 93, 94, 95, 96, 97, 98, 99, 100, 101, 102, 103, 104, 105, 106, 107, 108] (by decide +kernel) (by decide +kernel)
set_option maxRecDepth 20000 in
theorem gX8_mixTeams_X1_teamValue : GoodIn wsX8_mixTeams (wsV RX8 84 RX1 yX1_teamValue wsX1_teamValue) := goodIn_app (goodIn_of _ (by decide +kernel)) ggX8_mixTeams_X1_teamValue
set_option maxRecDepth 20000 in
theorem ggX8_mixTeams_X8_mix : GoodIn wsX8_mixTeams wsX8_mix := goodIn_r _ [61, 62] (by decide +kernel) (by decide +kernel)
set_option maxRecDepth 20000 in
theorem gX8_mixTeams_X8_mix : GoodIn wsX8_mixTeams (va_wsS RX8 220 yX8_mix wsX8_mix) := goodIn_app (goodIn_of _ (by decide +kernel)) ggX8_mixTeams_X8_mix
set_option maxRecDepth 20000 in
theorem ggX8_mixTeams_X1_countExemptible : GoodIn wsX8_mixTeams wsX1_countExemptible := goodIn_r _ [66, 9, 10, 11, 67, 68, 69, 70, 71, 42, 43, 44, 7, 45, 14, 15, 46, 47, 48, 32, 49, 34, 41, 36, 50, 72, 73, 74, 75, 76, 81, 82, 83, 84, 85, 86, 87, 88, 89, 90, 91, 92, 93, 94, 95, 96, 97, 98, 99, 100, 101, 102, 103, 104, 105, 106, 107, 108] (by decide +kernel) (by decide +kernel)
set_option maxRecDepth 20000 in
theorem gX8_mixTeams_X1_countExemptible : GoodIn wsX8_mixTeams (wsV RX8 146 RX1 yX1_countExemptible wsX1_countExemptible) := goodIn_app (goodIn_of _ (by decide +kernel)) ggX8_mixTeams_X1_countExemptible
set_option maxRecDepth 20000 in
theorem ggX8_mixChanges_X2_value : GoodIn wsX8_mixChanges wsX2_value := goodIn_r _ [10, 11, 12, 13, 14, 15, 16, 17, 33, 34, 35, 36, 37, 38, 39, 40, 41, 42] (by decide +kernel) (by decide +kernel)
set_option maxRecDepth 20000 in
theorem gX8_mixChanges_X2_value : GoodIn wsX8_mixChanges (wsV RX8 94 RX2 yX2_value wsX2_value) := goodIn_app (goodIn_of _ (by decide +kernel)) ggX8_mixChanges_X2_value
set_option maxRecDepth 20000 in
theorem ggX8_mixChanges_X8_mix : GoodIn wsX8_mixChanges wsX8_mix := goodIn_r _ [21, 22] (by decide +kernel) (by decide +kernel)
set_option maxRecDepth 20000 in
theorem gX8_mixChanges_X8_mix : GoodIn wsX8_mixChanges (va_wsS RX8 220 yX8_mix wsX8_mix) := goodIn_app (goodIn_of _ (by decide +kernel)) ggX8_mixChanges_X8_mix
set_option maxRecDepth 20000 in
theorem ggX8_mixLoans_X5_value : GoodIn wsX8_mixLoans wsX5_value := goodIn_r _ [8, 9, 10, 11, 12, 13, 14, 30, 31, 32, 33, 34, 35, 36] (by decide +kernel) (by decide +kernel)
set_option maxRecDepth 20000 in
theorem gX8_mixLoans_X5_value : GoodIn wsX8_mixLoans (wsV RX8 116 RX5 yX5_value wsX5_value) := goodIn_app (goodIn_of _ (by decide +kernel)) ggX8_mixLoans_X5_value
set_option maxRecDepth 20000 in
theorem ggX8_mixLoans_X8_mix : GoodIn wsX8_mixLoans wsX8_mix := goodIn_r _ [18, 19] (by decide +kernel) (by decide +kernel)
set_option maxRecDepth 20000 in
theorem gX8_mixLoans_X8_mix : GoodIn wsX8_mixLoans (va_wsS RX8 220 yX8_mix wsX8_mix) := goodIn_app (goodIn_of _ (by decide +kernel)) ggX8_mixLoans_X8_mix
set_option maxRecDepth 20000 in
theorem ggJ0_length_8abf5_J0_coder_7d493 : GoodIn wsJ0_length_8abf5 wsJ0_coder_7d493 := goodIn_r _ [6, 7, 8] (by decide +kernel) (by decide +kernel)
set_option maxRecDepth 20000 in
theorem gJ0_length_8abf5_J0_coder_7d493 : GoodIn wsJ0_length_8abf5 (wsV RJ0 335 RJ0 yJ0_coder_7d493 wsJ0_coder_7d493) := goodIn_app (goodIn_of _ (by decide +kernel)) ggJ0_length_8abf5_J0_coder_7d493
set_option maxRecDepth 20000 in
theorem ggJ0_charAt_5068e_J0_isLatin1_aae02 : GoodIn wsJ0_charAt_5068e wsJ0_isLatin1_aae02 := goodIn_r _ [6, 7, 8] (by decide +kernel) (by decide +kernel)
set_option maxRecDepth 20000 in
theorem gJ0_charAt_5068e_J0_isLatin1_aae02 : GoodIn wsJ0_charAt_5068e (wsV RJ0 492 RJ0 yJ0_isLatin1_aae02 wsJ0_isLatin1_aae02) := goodIn_app (goodIn_of _ (by decide +kernel)) ggJ0_charAt_5068e_J0_isLatin1_aae02
set_option maxRecDepth 20000 in
theorem ggJ0_charAt_5068e_J1_charAt_3b067 : GoodIn wsJ0_charAt_5068e wsJ1_charAt_3b067 := goodIn_r _ [12, 13, 14, 5, 15, 16, 17, 18, 19, 20] (by decide +kernel) (by decide +kernel)
set_option maxRecDepth 20000 in
theorem gJ0_charAt_5068e_J1_charAt_3b067 : GoodIn wsJ0_charAt_5068e (va_wsS RJ0 495 yJ1_charAt_3b067 wsJ1_charAt_3b067) := goodIn_app (goodIn_of _ (by decide +kernel)) ggJ0_charAt_5068e_J1_charAt_3b067
set_option maxRecDepth 20000 in
theorem ggJ0_charAt_5068e_J2_charAt_3b067 : GoodIn wsJ0_charAt_5068e wsJ2_charAt_3b067 := goodIn_r _ [24, 25, 26, 23, 27, 28, 29, 30, 31, 14, 5, 15, 16, 17, 18, 19, 20, 32, 33, 34, 35, 36, 37] (by decide +kernel) (by decide +kernel)
set_option maxRecDepth 20000 in
theorem gJ0_charAt_5068e_J2_charAt_3b067 : GoodIn wsJ0_charAt_5068e (va_wsS RJ0 498 yJ2_charAt_3b067 wsJ2_charAt_3b067) := goodIn_app (goodIn_of _ (by decide +kernel)) ggJ0_charAt_5068e_J2_charAt_3b067
set_option maxRecDepth 20000 in
theorem ggJ0_checkIndex_df160_J3_checkIndex_8e157 : GoodIn wsJ0_checkIndex_df160 wsJ3_checkIndex_8e157 := goodIn_r _ [5] (by decide +kernel) (by decide +kernel)
set_option maxRecDepth 20000 in
theorem gJ0_checkIndex_df160_J3_checkIndex_8e157 : GoodIn wsJ0_checkIndex_df160 (va_wsS RJ0 1059 yJ3_checkIndex_8e157 wsJ3_checkIndex_8e157) := goodIn_app (goodIn_of _ (by decide +kernel)) ggJ0_checkIndex_df160_J3_checkIndex_8e157
set_option maxRecDepth 20000 in
theorem ggJ1_charAt_3b067_J0_checkIndex_df160 : GoodIn wsJ1_charAt_3b067 wsJ0_checkIndex_df160 := goodIn_r _ [4, 5, 6, 7, 8, 9] (by decide +kernel) (by decide +kernel)
set_option maxRecDepth 20000 in
theorem gJ1_charAt_3b067_J0_checkIndex_df160 : GoodIn wsJ1_charAt_3b067 (va_wsS RJ1 9 yJ0_checkIndex_df160 wsJ0_checkIndex_df160) := goodIn_app (goodIn_of _ (by decide +kernel)) ggJ1_charAt_3b067_J0_checkIndex_df160
set_option maxRecDepth 20000 in
theorem ggJ2_getChar_3b067_J2_length_9d52b : GoodIn wsJ2_getChar_3b067 wsJ2_length_9d52b := goodIn_r _ [7] (by decide +kernel) (by decide +kernel)
set_option maxRecDepth 20000 in
theorem gJ2_getChar_3b067_J2_length_9d52b : GoodIn wsJ2_getChar_3b067 (va_wsS RJ2 48 yJ2_length_9d52b wsJ2_length_9d52b) := goodIn_app (goodIn_of _ (by decide +kernel)) ggJ2_getChar_3b067_J2_length_9d52b
set_option maxRecDepth 20000 in
theorem ggJ2_charAt_3b067_J2_checkIndex_2214a : GoodIn wsJ2_charAt_3b067 wsJ2_checkIndex_2214a := goodIn_r _ [4, 5, 6, 3, 7, 8, 9, 10, 11, 12, 13, 14, 15, 16] (by decide +kernel) (by decide +kernel)
set_option maxRecDepth 20000 in
theorem gJ2_charAt_3b067_J2_checkIndex_2214a : GoodIn wsJ2_charAt_3b067 (va_wsS RJ2 67 yJ2_checkIndex_2214a wsJ2_checkIndex_2214a) := goodIn_app (goodIn_of _ (by decide +kernel)) ggJ2_charAt_3b067_J2_checkIndex_2214a
set_option maxRecDepth 20000 in
theorem ggJ2_charAt_3b067_J2_getChar_3b067 : GoodIn wsJ2_charAt_3b067 wsJ2_getChar_3b067 := goodIn_r _ [19, 20, 21, 22, 5, 6, 3, 7] (by decide +kernel) (by decide +kernel)
set_option maxRecDepth 20000 in
theorem gJ2_charAt_3b067_J2_getChar_3b067 : GoodIn wsJ2_charAt_3b067 (va_wsS RJ2 71 yJ2_getChar_3b067 wsJ2_getChar_3b067) := goodIn_app (goodIn_of _ (by decide +kernel)) ggJ2_charAt_3b067_J2_getChar_3b067
set_option maxRecDepth 20000 in
theorem ggJ2_checkIndex_2214a_J2_length_9d52b : GoodIn wsJ2_checkIndex_2214a wsJ2_length_9d52b := goodIn_r _ [4] (by decide +kernel) (by decide +kernel)
set_option maxRecDepth 20000 in
theorem gJ2_checkIndex_2214a_J2_length_9d52b : GoodIn wsJ2_checkIndex_2214a (va_wsS RJ2 48 yJ2_length_9d52b wsJ2_length_9d52b) := goodIn_app (goodIn_of _ (by decide +kernel)) ggJ2_checkIndex_2214a_J2_length_9d52b
set_option maxRecDepth 20000 in
theorem ggJ2_checkIndex_2214a_J0_checkIndex_df160 : GoodIn wsJ2_checkIndex_2214a wsJ0_checkIndex_df160 := goodIn_r _ [8, 9, 10, 11, 12, 13] (by decide +kernel) (by decide +kernel)
set_option maxRecDepth 20000 in
theorem gJ2_checkIndex_2214a_J0_checkIndex_df160 : GoodIn wsJ2_checkIndex_2214a (va_wsS RJ2 414 yJ0_checkIndex_df160 wsJ0_checkIndex_df160) := goodIn_app (goodIn_of _ (by decide +kernel)) ggJ2_checkIndex_2214a_J0_checkIndex_df160
set_option maxRecDepth 20000 in
theorem ggL_addTeam_X8_addTeam : GoodIn wsL_addTeam wsX8_addTeam := goodIn_ca (goodIn_ca (goodIn_ca (goodIn_r _ [7, 8, 9, 10, 11, 12, 13, 14, 15, 16, 17, 18, 19, 20, 21, 22, 23, 24, 25, 26, 27, 28, 29, 30, 31, 32, 33, 34, 35, 36, 37, 38, 39, 40, 41, 42, 43, 44, 45, 46, 47, 48, 49, 50, 51, 52, 53, 54, 55, 56, 57, 58, 59, 60, 61, 62, 63, 64, 65, 66, 67, 68, 69, 70, 71, 72, 73, 74, 75, 76, 77, 78, 79, 80, 81, 82, 83, 6, 84, 85, 86, 87, 88, 89, 90, 91, 92, 93, 94, 95, 96, 97, 98, 99, 100, 101, 102, 103, 104, 105, 106, 107, 108, 109, 110, 111, 112, 113, 114, 115, 116, 117, 118, 119, 120, 121, 122, 123, 124, 125, 126, 127, 128] (by decide +kernel) (by decide +kernel)) (goodIn_sub (fun _ h => List.mem_cons_of_mem _ (List.mem_append_left _ (List.mem_append_left _ (List.mem_append_right _ h)))) (by decide +kernel))) (goodIn_sub (fun _ h => List.mem_cons_of_mem _ (List.mem_append_left _ (List.mem_append_right _ h))) (by decide +kernel))) (goodIn_sub (fun _ h => List.mem_cons_of_mem _ (List.mem_append_right _ h)) (by decide +kernel))
set_option maxRecDepth 20000 in
theorem gL_addTeam_X8_addTeam : GoodIn wsL_addTeam (wsV RL 9 RX8 yX8_addTeam wsX8_addTeam) := goodIn_app (goodIn_of _ (by decide +kernel)) ggL_addTeam_X8_addTeam
set_option maxRecDepth 20000 in
theorem ggL_freeze_X8_freeze : GoodIn wsL_freeze wsX8_freeze := goodIn_ca (goodIn_ca (goodIn_ca (goodIn_r _ [7, 8, 9, 10, 11, 12, 13, 14, 15, 16, 17, 18, 19, 20, 21, 22, 23, 24, 25, 26, 27, 28, 29, 30, 31, 32, 33, 34, 35, 36, 37, 38, 39, 40, 41, 42, 43, 44, 45, 46, 47, 48, 49, 50, 51, 52, 53, 54, 55, 56, 57, 58, 59, 60, 61, 62, 63, 64, 65, 66, 67, 68, 69, 70, 71, 72, 73, 74, 75, 76, 77, 78, 79, 80, 6, 81, 82, 83, 84, 85, 86, 87, 88, 89, 90, 91, 92, 93, 94, 95, 96, 97, 98, 99, 100, 101, 102, 103, 104, 105, 106, 107, 108, 109, 110, 111, 112, 113, 114, 115, 116, 117, 118, 119, 120, 121, 122, 123, 124, 125, 126, 127, 128, 129] (by decide +kernel) (by decide +kernel)) (goodIn_sub (fun _ h => List.mem_cons_of_mem _ (List.mem_append_left _ (List.mem_append_left _ (List.mem_append_right _ h)))) (by decide +kernel))) (goodIn_sub (fun _ h => List.mem_cons_of_mem _ (List.mem_append_left _ (List.mem_append_right _ h))) (by decide +kernel))) (goodIn_sub (fun _ h => List.mem_cons_of_mem _ (List.mem_append_right _ h)) (by decide +kernel))
set_option maxRecDepth 20000 in
theorem gL_freeze_X8_freeze : GoodIn wsL_freeze (wsV RL 19 RX8 yX8_freeze wsX8_freeze) := goodIn_app (goodIn_of _ (by decide +kernel)) ggL_freeze_X8_freeze
set_option maxRecDepth 20000 in
theorem ggL_set_X8_set : GoodIn wsL_set wsX8_set := goodIn_ca (goodIn_ca (goodIn_ca (goodIn_r _ [6, 7, 8, 9, 10, 11, 12, 13, 14, 15, 16, 17, 18, 19, 20, 21, 22, 23, 24, 25, 26, 27, 28, 29, 30, 31, 32, 33, 34, 35, 36, 37, 38, 39, 40, 41, 42, 43, 44, 45, 46, 47, 48, 49, 50, 51, 52, 53, 54, 55, 56, 57, 58, 59, 60, 61, 62, 63, 64, 65, 66, 67, 68, 69, 70, 71, 72, 73, 74, 75, 76, 77, 5, 78, 79, 80, 81, 82, 83, 84, 85, 86, 87, 88, 89, 90, 91, 92, 93, 94, 95, 96, 97, 98, 99, 100, 101, 102, 103, 104, 105, 106, 107, 108, 109, 110, 111, 112, 113, 114, 115, 116, 117, 118, 119, 120, 121, 122] (by decide +kernel) (by decide +kernel)) (goodIn_sub (fun _ h => List.mem_cons_of_mem _ (List.mem_append_left _ (List.mem_append_left _ (List.mem_append_right _ h)))) (by decide +kernel))) (goodIn_sub (fun _ h => List.mem_cons_of_mem _ (List.mem_append_left _ (List.mem_append_right _ h))) (by decide +kernel))) (goodIn_sub (fun _ h => List.mem_cons_of_mem _ (List.mem_append_right _ h)) (by decide +kernel))
set_option maxRecDepth 20000 in
theorem gL_set_X8_set : GoodIn wsL_set (wsV RL 23 RX8 yX8_set wsX8_set) := goodIn_app (goodIn_of _ (by decide +kernel)) ggL_set_X8_set
set_option maxRecDepth 20000 in
theorem ggL_endWeek_X8_endWeek : GoodIn wsL_endWeek wsX8_endWeek := goodIn_ca (goodIn_ca (goodIn_ca (goodIn_r _ [6, 7, 8, 9, 10, 11, 12, 13, 14, 15, 16, 17, 18, 19, 20, 21, 22, 23, 24, 25, 26, 27, 28, 29, 30, 31, 32, 33, 34, 35, 36, 37, 38, 39, 40, 41, 42, 43, 44, 45, 46, 47, 48, 49, 50, 51, 52, 53, 54, 55, 56, 57, 58, 59, 60, 61, 62, 63, 64, 65, 66, 67, 68, 69, 70, 71, 72, 73, 74, 75, 76, 77, 78, 79, 80, 81, 82, 83, 84, 85, 86, 87, 88, 89, 90, 91, 92, 93, 94, 95, 96, 97, 98, 99, 100, 101, 102, 103, 104, 105, 106, 107, 108, 109, 110, 111, 112, 113, 114, 115, 116, 5, 117, 118, 119, 120, 121, 122, 123, 124, 125, 126, 127, 128, 129, 130, 131, 132, 133, 134, 135, 136, 137, 138, 139, 140, 141, 142, 143, 144, 145, 146, 147, 148, 149, 150, 151, 152, 153, 154, 155, 156, 157, 158, 159, 160, 161] (by decide +kernel) (by decide +kernel)) (goodIn_sub (fun _ h => List.mem_cons_of_mem _ (List.mem_append_left _ (List.mem_append_left _ (List.mem_append_right _ h)))) (by decide +kernel))) (goodIn_sub (fun _ h => List.mem_cons_of_mem _ (List.mem_append_left _ (List.mem_append_right _ h))) (by decide +kernel))) (goodIn_sub (fun _ h => List.mem_cons_of_mem _ (List.mem_append_right _ h)) (by decide +kernel))
set_option maxRecDepth 20000 in
theorem gL_endWeek_X8_endWeek : GoodIn wsL_endWeek (wsV RL 27 RX8 yX8_endWeek wsX8_endWeek) := goodIn_app (goodIn_of _ (by decide +kernel)) ggL_endWeek_X8_endWeek
set_option maxRecDepth 20000 in
theorem ggL_ask_X8_ask : GoodIn wsL_ask wsX8_ask := goodIn_ca (goodIn_ca (goodIn_ca (goodIn_r _ [8, 9, 10, 11, 12, 13, 14, 15, 16, 17, 18, 19, 20, 21, 22, 23, 24, 25, 26, 27, 28, 29, 30, 31, 32, 33, 34, 35, 36, 37, 38, 39, 40, 41, 42, 43, 44, 45, 46, 47, 48, 49, 50, 51, 52, 53, 54, 55, 56, 57, 58, 59, 60, 61, 62, 63, 64, 65, 66, 67, 68, 69, 70, 71, 72, 73, 74, 75, 76, 77, 78, 79, 80, 81, 82, 7, 83, 84, 85, 86, 87, 88, 89, 90, 91, 92, 93, 94, 95, 96, 97, 98, 99, 100, 101, 102, 103, 104, 105, 106, 107, 108, 109, 110, 111, 112, 113, 114, 115, 116, 117, 118, 119, 120, 121, 122, 123, 124, 125, 126, 127, 128, 129, 130, 131, 132, 133, 134, 135, 136, 137, 138, 139] (by decide +kernel) (by decide +kernel)) (goodIn_sub (fun _ h => List.mem_cons_of_mem _ (List.mem_append_left _ (List.mem_append_left _ (List.mem_append_right _ h)))) (by decide +kernel))) (goodIn_sub (fun _ h => List.mem_cons_of_mem _ (List.mem_append_left _ (List.mem_append_right _ h))) (by decide +kernel))) (goodIn_sub (fun _ h => List.mem_cons_of_mem _ (List.mem_append_right _ h)) (by decide +kernel))
set_option maxRecDepth 20000 in
theorem gL_ask_X8_ask : GoodIn wsL_ask (wsV RL 31 RX8 yX8_ask wsX8_ask) := goodIn_app (goodIn_of _ (by decide +kernel)) ggL_ask_X8_ask
set_option maxRecDepth 20000 in
theorem ggL_exempt_X8_exempt : GoodIn wsL_exempt wsX8_exempt := goodIn_ca (goodIn_ca (goodIn_ca (goodIn_r _ [7, 8, 9, 10, 11, 12, 13, 14, 15, 16, 17, 18, 19, 20, 21, 22, 23, 24, 25, 26, 27, 28, 29, 30, 31, 32, 33, 34, 35, 36, 37, 38, 39, 40, 41, 42, 43, 44, 45, 46, 47, 48, 49, 50, 51, 52, 53, 54, 55, 56, 57, 58, 59, 60, 61, 62, 63, 64, 65, 66, 67, 68, 69, 70, 71, 72, 73, 74, 75, 76, 77, 78, 79, 80, 81, 82, 83, 84, 85, 86, 87, 88, 89, 90, 91, 92, 93, 94, 95, 96, 97, 98, 99, 100, 101, 102, 103, 6, 104, 105, 106, 107, 108, 109, 110, 111, 112, 113, 114, 115, 116, 117, 118, 119, 120, 121, 122, 123, 124, 125, 126, 127, 128, 129, 130, 131, 132, 133, 134, 135, 136, 137, 138, 139, 140, 141, 142, 143, 144, 145, 146, 147, 148] (by decide +kernel) (by decide +kernel)) (goodIn_sub (fun _ h => List.mem_cons_of_mem _ (List.mem_append_left _ (List.mem_append_left _ (List.mem_append_right _ h)))) (by decide +kernel))) (goodIn_sub (fun _ h => List.mem_cons_of_mem _ (List.mem_append_left _ (List.mem_append_right _ h))) (by decide +kernel))) (goodIn_sub (fun _ h => List.mem_cons_of_mem _ (List.mem_append_right _ h)) (by decide +kernel))
set_option maxRecDepth 20000 in
theorem gL_exempt_X8_exempt : GoodIn wsL_exempt (wsV RL 36 RX8 yX8_exempt wsX8_exempt) := goodIn_app (goodIn_of _ (by decide +kernel)) ggL_exempt_X8_exempt
set_option maxRecDepth 20000 in
theorem ggL_make_X8_make : GoodIn wsL_make wsX8_make := goodIn_ca (goodIn_ca (goodIn_ca (goodIn_r _ [7, 8, 9, 10, 11, 12, 13, 14, 15, 16, 17, 18, 19, 20, 21, 22, 23, 24, 25, 26, 27, 28, 29, 30, 31, 32, 33, 34, 35, 36, 37, 38, 39, 40, 41, 42, 43, 44, 45, 46, 47, 48, 49, 50, 51, 52, 53, 54, 55, 56, 57, 58, 59, 60, 61, 62, 63, 64, 65, 66, 67, 68, 69, 70, 71, 72, 73, 74, 75, 76, 77, 78, 79, 80, 81, 82, 83, 84, 85, 86, 87, 88, 89, 90, 91, 92, 93, 94, 95, 6, 96, 97, 98, 99, 100, 101, 102, 103, 104, 105, 106, 107, 108, 109, 110, 111, 112, 113, 114, 115, 116, 117, 118, 119, 120, 121, 122, 123, 124, 125, 126, 127, 128, 129, 130, 131, 132, 133, 134, 135, 136, 137, 138, 139, 140, 141, 142, 143, 144, 145, 146, 147, 148, 149, 150, 151, 152] (by decide +kernel) (by decide +kernel)) (goodIn_sub (fun _ h => List.mem_cons_of_mem _ (List.mem_append_left _ (List.mem_append_left _ (List.mem_append_right _ h)))) (by decide +kernel))) (goodIn_sub (fun _ h => List.mem_cons_of_mem _ (List.mem_append_left _ (List.mem_append_right _ h))) (by decide +kernel))) (goodIn_sub (fun _ h => List.mem_cons_of_mem _ (List.mem_append_right _ h)) (by decide +kernel))
set_option maxRecDepth 20000 in
theorem gL_make_X8_make : GoodIn wsL_make (wsV RL 39 RX8 yX8_make wsX8_make) := goodIn_app (goodIn_of _ (by decide +kernel)) ggL_make_X8_make
