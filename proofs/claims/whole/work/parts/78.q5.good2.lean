set_option maxRecDepth 20000 in
theorem ggL_law_X9_weeksUntil : GoodIn wsL_law wsX9_weeksUntil := goodIn_r _ [783, 94, 371, 372, 373, 5, 374, 178, 179, 180, 185, 186, 187, 188, 189, 169, 170, 171, 172, 96, 312, 313, 314, 315, 434, 435, 436, 437, 308, 309, 310, 311, 316, 317, 318, 319, 320, 321, 322, 323, 324, 325, 326, 327, 328, 329, 330, 331, 332, 333, 334, 335, 784, 785, 786, 787, 195, 196, 197, 198, 1092, 1093, 1094, 1095, 1096, 1097, 1098, 1099, 1100, 1101, 1102, 1103, 1104] (by decide +kernel) (by decide +kernel)
set_option maxRecDepth 20000 in
theorem gL_law_X9_weeksUntil : GoodIn wsL_law (wsV RL 161 RX9 yX9_weeksUntil wsX9_weeksUntil) := goodIn_app (goodIn_of _ (by decide +kernel)) ggL_law_X9_weeksUntil
set_option maxRecDepth 20000 in
theorem ggL_law_L_lender : GoodIn wsL_law wsL_lender := goodIn_ca (goodIn_ca (goodIn_r _ [790, 339, 103, 791, 792, 793, 2, 794, 16, 556, 772, 552, 553, 554, 555, 155, 156, 557, 350, 351, 40, 352, 127, 773, 774, 775, 776, 157, 158, 777, 353, 354, 778, 411, 412, 15, 413, 35, 795, 403, 404, 405, 49, 118, 406, 407, 408, 48, 409, 140, 73, 75, 76, 796, 797, 798, 799, 54, 1088, 1089, 1090, 1091, 1105, 1106, 1107, 1108, 1109, 1110, 1118, 1119, 1120, 1121, 1122, 1133, 1134, 1135, 1136, 1137, 1138, 1139] (by decide +kernel) (by decide +kernel)) (goodIn_sub (fun _ h => List.mem_append_left _ (List.mem_append_left _ (List.mem_append_right _ h))) (by decide +kernel))) (goodIn_sub (fun _ h => List.mem_append_left _ (List.mem_append_right _ h)) (by decide +kernel))
set_option maxRecDepth 20000 in
theorem gL_law_L_lender : GoodIn wsL_law (va_wsS RL 162 yL_lender wsL_lender) := goodIn_app (goodIn_of _ (by decide +kernel)) ggL_law_L_lender
set_option maxRecDepth 20000 in
theorem ggL_law_X9_lender : GoodIn wsL_law wsX9_lender := goodIn_r _ [803, 371, 372, 373, 5, 374, 94, 178, 179, 180, 185, 186, 187, 188, 189, 434, 435, 436, 437, 312, 313, 314, 315, 430, 431, 432, 433, 328, 329, 330, 331, 804, 805, 806, 807, 195, 196, 197, 198, 1092, 1093, 1094, 1095, 1096, 1097, 1098, 1099, 1100, 1101, 1102, 1103, 1104] (by decide +kernel) (by decide +kernel)
set_option maxRecDepth 20000 in
theorem gL_law_X9_lender : GoodIn wsL_law (wsV RL 164 RX9 yX9_lender wsX9_lender) := goodIn_app (goodIn_of _ (by decide +kernel)) ggL_law_X9_lender
set_option maxRecDepth 20000 in
theorem ggL_law_X8_nextThaw : GoodIn wsL_law wsX8_nextThaw := goodIn_r _ [811, 16, 812, 813, 814, 15, 815, 118, 37, 1088, 1089, 1090, 1091, 1105, 1106, 1107, 1108, 1109, 1110] (by decide +kernel) (by decide +kernel)
set_option maxRecDepth 20000 in
theorem gL_law_X8_nextThaw : GoodIn wsL_law (wsV RL 165 RX8 yX8_nextThaw wsX8_nextThaw) := goodIn_app (goodIn_of _ (by decide +kernel)) ggL_law_X8_nextThaw
set_option maxRecDepth 20000 in
theorem ggL_law_X9_nextThaw : GoodIn wsL_law wsX9_nextThaw := goodIn_r _ [819, 820, 821, 822, 5, 823, 94, 195, 196, 197, 198, 189, 1092, 1093, 1094, 1095, 1096, 1097, 1098, 1099, 1100, 1101, 1102, 1103, 1104] (by decide +kernel) (by decide +kernel)
set_option maxRecDepth 20000 in
theorem gL_law_X9_nextThaw : GoodIn wsL_law (wsV RL 168 RX9 yX9_nextThaw wsX9_nextThaw) := goodIn_app (goodIn_of _ (by decide +kernel)) ggL_law_X9_nextThaw
set_option maxRecDepth 20000 in
theorem ggL_law_L_inBeing : GoodIn wsL_law wsL_inBeing := goodIn_ca (goodIn_r _ [826, 103, 827, 828, 829, 2, 830, 157, 158, 16, 771, 17, 779, 115, 116, 15, 117, 118, 35, 119, 120, 121, 122, 37, 41, 45, 49, 123, 124, 125, 40, 126, 127, 54, 128, 55, 56, 57, 129, 130, 131, 44, 132, 133, 134, 61, 135, 62, 63, 64, 65, 66, 67, 68, 136, 137, 138, 48, 139, 140, 72, 141, 73, 74, 75, 76, 77, 258, 259, 260, 261, 262, 263, 264, 265, 146, 266, 267, 268, 269, 270, 271, 272, 273, 274, 275, 276, 277, 278, 279, 280, 281, 282, 283, 284, 285, 286, 287, 288, 289, 290, 291, 292, 293, 294, 295, 296, 297, 298, 299, 831, 693, 694, 695, 696, 697, 832, 699, 700, 701, 392, 348, 1088, 1089, 1090, 1091, 1105, 1106, 1107, 1108, 1109, 1110, 1118, 1119, 1120, 1121, 1122, 1123, 1124, 1125, 1126, 1127, 1128, 1129, 1130, 1131, 1132, 1133, 1134, 1135, 1136, 1137, 1138, 1139] (by decide +kernel) (by decide +kernel)) (goodIn_sub (fun _ h => List.mem_append_left _ (List.mem_append_right _ h)) (by decide +kernel))
set_option maxRecDepth 20000 in
theorem gL_law_L_inBeing : GoodIn wsL_law (va_wsS RL 169 yL_inBeing wsL_inBeing) := goodIn_app (goodIn_of _ (by decide +kernel)) ggL_law_L_inBeing
set_option maxRecDepth 20000 in
theorem ggL_law_X9_inBeing : GoodIn wsL_law wsX9_inBeing := goodIn_r _ [836, 94, 178, 179, 5, 180, 185, 186, 187, 188, 189, 195, 196, 197, 198, 169, 170, 171, 172, 96, 308, 309, 310, 311, 312, 313, 314, 315, 316, 317, 318, 319, 320, 321, 322, 323, 324, 325, 326, 327, 328, 329, 330, 331, 332, 333, 334, 335, 723, 724, 725, 726, 591, 592, 593, 594, 784, 785, 786, 787, 1092, 1093, 1094, 1095, 1096, 1097, 1098, 1099, 1100, 1101, 1102, 1103, 1104] (by decide +kernel) (by decide +kernel)
set_option maxRecDepth 20000 in
theorem gL_law_X9_inBeing : GoodIn wsL_law (wsV RL 171 RX9 yX9_inBeing wsX9_inBeing) := goodIn_app (goodIn_of _ (by decide +kernel)) ggL_law_X9_inBeing
set_option maxRecDepth 20000 in
theorem ggL_law_L_type : GoodIn wsL_law wsL_type := goodIn_ca (goodIn_ca (goodIn_r _ [839, 103, 104, 840, 841, 842, 2, 843, 157, 158, 159, 160, 25, 682, 844, 845, 846, 24, 847, 89, 848, 1088, 1089, 1090, 1091, 1113, 1114, 1115, 1116, 1117] (by decide +kernel) (by decide +kernel)) (goodIn_sub (fun _ h => List.mem_append_left _ (List.mem_append_right _ h)) (by decide +kernel))) (goodIn_sub (fun _ h => List.mem_append_right _ h) (by decide +kernel))
set_option maxRecDepth 20000 in
theorem gL_law_L_type : GoodIn wsL_law (va_wsS RL 172 yL_type wsL_type) := goodIn_app (goodIn_of _ (by decide +kernel)) ggL_law_L_type
set_option maxRecDepth 20000 in
theorem ggL_law_X9_type : GoodIn wsL_law wsX9_type := goodIn_r _ [852, 718, 97, 178, 179, 5, 180, 185, 186, 187, 188, 189, 195, 196, 197, 198, 1092, 1093, 1094, 1095, 1096, 1097, 1098, 1099, 1100, 1101, 1102, 1103, 1104] (by decide +kernel) (by decide +kernel)
set_option maxRecDepth 20000 in
theorem gL_law_X9_type : GoodIn wsL_law (wsV RL 174 RX9 yX9_type wsX9_type) := goodIn_app (goodIn_of _ (by decide +kernel)) ggL_law_X9_type
set_option maxRecDepth 20000 in
theorem ggL_law_X8_clearCommands : GoodIn wsL_law wsX8_clearCommands := goodIn_r _ [856, 25, 682, 1088, 1089, 1090, 1091, 1113, 1114, 1115, 1116, 1117] (by decide +kernel) (by decide +kernel)
set_option maxRecDepth 20000 in
theorem gL_law_X8_clearCommands : GoodIn wsL_law (wsV RL 175 RX8 yX8_clearCommands wsX8_clearCommands) := goodIn_app (goodIn_of _ (by decide +kernel)) ggL_law_X8_clearCommands
