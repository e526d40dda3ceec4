set_option maxRecDepth 20000 in
theorem ggL_law_X9_lend : GoodIn wsL_law wsX9_lend := goodIn_r _ [513, 169, 170, 171, 5, 172, 96, 94, 514, 515, 516, 517, 177, 371, 372, 373, 374, 178, 179, 180, 312, 313, 314, 315, 430, 431, 432, 433, 328, 329, 330, 331, 324, 325, 326, 327, 181, 182, 183, 184, 185, 186, 187, 188, 189, 190, 191, 192, 193, 194, 95, 195, 196, 197, 198, 1092, 1093, 1094, 1095, 1096, 1097, 1098, 1099, 1100, 1101, 1102, 1103, 1104] (by decide +kernel) (by decide +kernel)
set_option maxRecDepth 20000 in
theorem gL_law_X9_lend : GoodIn wsL_law (wsV RL 131 RX9 yX9_lend wsX9_lend) := goodIn_app (goodIn_of _ (by decide +kernel)) ggL_law_X9_lend
set_option maxRecDepth 20000 in
theorem ggL_law_L_repay : GoodIn wsL_law wsL_repay := goodIn_ca (goodIn_ca (goodIn_ca (goodIn_r _ [520, 339, 103, 104, 521, 522, 523, 2, 524, 21, 16, 109, 110, 111, 20, 112, 83, 113, 114, 115, 116, 15, 117, 118, 35, 119, 120, 121, 122, 37, 41, 45, 49, 123, 124, 125, 40, 126, 127, 54, 128, 55, 56, 57, 129, 130, 131, 44, 132, 133, 134, 61, 135, 62, 63, 64, 65, 66, 67, 68, 136, 137, 138, 48, 139, 140, 72, 141, 73, 74, 75, 76, 77, 525, 526, 527, 528, 287, 529, 530, 531, 532, 289, 290, 291, 292, 293, 294, 295, 296, 297, 298, 299, 151, 152, 153, 154, 155, 156, 157, 158, 159, 160, 161, 162, 163, 164, 1088, 1089, 1090, 1091, 1111, 1112, 1105, 1106, 1107, 1108, 1109, 1110, 1118, 1119, 1120, 1121, 1122, 1123, 1124, 1125, 1126, 1127, 1128, 1129, 1130, 1131, 1132, 1133, 1134, 1135, 1136, 1137, 1138, 1139] (by decide +kernel) (by decide +kernel)) (goodIn_sub (fun _ h => List.mem_append_left _ (List.mem_append_left _ (List.mem_append_right _ h))) (by decide +kernel))) (goodIn_sub (fun _ h => List.mem_append_left _ (List.mem_append_right _ h)) (by decide +kernel))) (goodIn_sub (fun _ h => List.mem_append_right _ h) (by decide +kernel))
set_option maxRecDepth 20000 in
theorem gL_law_L_repay : GoodIn wsL_law (va_wsS RL 132 yL_repay wsL_repay) := goodIn_app (goodIn_of _ (by decide +kernel)) ggL_law_L_repay
set_option maxRecDepth 20000 in
theorem ggL_law_X9_repay : GoodIn wsL_law wsX9_repay := goodIn_r _ [536, 169, 170, 171, 5, 172, 96, 94, 537, 538, 539, 540, 177, 541, 542, 543, 544, 178, 179, 180, 328, 329, 330, 331, 312, 313, 314, 315, 332, 333, 334, 335, 324, 325, 326, 327, 181, 182, 183, 184, 185, 186, 187, 188, 189, 190, 191, 192, 193, 194, 95, 195, 196, 197, 198, 1092, 1093, 1094, 1095, 1096, 1097, 1098, 1099, 1100, 1101, 1102, 1103, 1104] (by decide +kernel) (by decide +kernel)
set_option maxRecDepth 20000 in
theorem gL_law_X9_repay : GoodIn wsL_law (wsV RL 134 RX9 yX9_repay wsX9_repay) := goodIn_app (goodIn_of _ (by decide +kernel)) ggL_law_X9_repay
set_option maxRecDepth 20000 in
theorem ggL_law_L_team : GoodIn wsL_law wsL_team := goodIn_ca (goodIn_ca (goodIn_r _ [547, 339, 103, 548, 549, 550, 2, 551, 16, 552, 553, 554, 555, 155, 156, 556, 557, 350, 351, 40, 352, 127, 558, 559, 560, 561, 157, 158, 562, 563, 564, 15, 565, 41, 293, 45, 566, 451, 49, 118, 567, 568, 569, 44, 570, 133, 61, 64, 571, 572, 573, 574, 63, 575, 576, 577, 48, 578, 140, 72, 75, 579, 580, 581, 582, 73, 402, 403, 404, 405, 406, 407, 408, 409, 76, 218, 219, 266, 267, 268, 269, 66, 1088, 1089, 1090, 1091, 1105, 1106, 1107, 1108, 1109, 1110, 1118, 1119, 1120, 1121, 1122, 1123, 1124, 1125, 1126, 1127, 1128, 1129, 1130, 1131, 1132, 1133, 1134, 1135, 1136, 1137, 1138, 1139] (by decide +kernel) (by decide +kernel)) (goodIn_sub (fun _ h => List.mem_append_left _ (List.mem_append_left _ (List.mem_append_right _ h))) (by decide +kernel))) (goodIn_sub (fun _ h => List.mem_append_left _ (List.mem_append_right _ h)) (by decide +kernel))
set_option maxRecDepth 20000 in
theorem gL_law_L_team : GoodIn wsL_law (va_wsS RL 135 yL_team wsL_team) := goodIn_app (goodIn_of _ (by decide +kernel)) ggL_law_L_team
set_option maxRecDepth 20000 in
theorem ggL_law_X9_team : GoodIn wsL_law wsX9_team := goodIn_r _ [586, 371, 372, 373, 5, 374, 94, 178, 179, 180, 185, 186, 187, 188, 189, 587, 588, 589, 590, 312, 313, 314, 315, 591, 592, 593, 594, 320, 321, 322, 323, 595, 596, 597, 598, 599, 600, 601, 602, 328, 329, 330, 331, 430, 431, 432, 433, 316, 317, 318, 319, 195, 196, 197, 198, 1092, 1093, 1094, 1095, 1096, 1097, 1098, 1099, 1100, 1101, 1102, 1103, 1104] (by decide +kernel) (by decide +kernel)
set_option maxRecDepth 20000 in
theorem gL_law_X9_team : GoodIn wsL_law (wsV RL 137 RX9 yX9_team wsX9_team) := goodIn_app (goodIn_of _ (by decide +kernel)) ggL_law_X9_team
set_option maxRecDepth 20000 in
theorem ggL_law_L_change : GoodIn wsL_law wsL_change := goodIn_ca (goodIn_ca (goodIn_r _ [605, 339, 103, 606, 607, 608, 2, 609, 16, 610, 611, 612, 613, 614, 155, 156, 615, 395, 396, 44, 397, 133, 558, 559, 560, 561, 157, 158, 616, 617, 618, 619, 61, 62, 63, 64, 65, 66, 67, 1088, 1089, 1090, 1091, 1105, 1106, 1107, 1108, 1109, 1110, 1123, 1124, 1125, 1126, 1127, 1128, 1129, 1130, 1131, 1132] (by decide +kernel) (by decide +kernel)) (goodIn_sub (fun _ h => List.mem_append_left _ (List.mem_append_left _ (List.mem_append_right _ h))) (by decide +kernel))) (goodIn_sub (fun _ h => List.mem_append_left _ (List.mem_append_right _ h)) (by decide +kernel))
set_option maxRecDepth 20000 in
theorem gL_law_L_change : GoodIn wsL_law (va_wsS RL 138 yL_change wsL_change) := goodIn_app (goodIn_of _ (by decide +kernel)) ggL_law_L_change
set_option maxRecDepth 20000 in
theorem ggL_law_X9_change : GoodIn wsL_law wsX9_change := goodIn_r _ [623, 422, 423, 424, 5, 425, 94, 178, 179, 180, 185, 186, 187, 188, 189, 320, 321, 322, 323, 195, 196, 197, 198, 1092, 1093, 1094, 1095, 1096, 1097, 1098, 1099, 1100, 1101, 1102, 1103, 1104] (by decide +kernel) (by decide +kernel)
set_option maxRecDepth 20000 in
theorem gL_law_X9_change : GoodIn wsL_law (wsV RL 140 RX9 yX9_change wsX9_change) := goodIn_app (goodIn_of _ (by decide +kernel)) ggL_law_X9_change
set_option maxRecDepth 20000 in
theorem ggL_law_L_loan : GoodIn wsL_law wsL_loan := goodIn_ca (goodIn_ca (goodIn_r _ [626, 339, 103, 627, 628, 629, 2, 630, 155, 156, 16, 631, 632, 530, 531, 48, 532, 140, 558, 559, 560, 561, 157, 158, 633, 634, 635, 636, 72, 73, 74, 75, 76, 77, 1088, 1089, 1090, 1091, 1105, 1106, 1107, 1108, 1109, 1110, 1133, 1134, 1135, 1136, 1137, 1138, 1139] (by decide +kernel) (by decide +kernel)) (goodIn_sub (fun _ h => List.mem_append_left _ (List.mem_append_left _ (List.mem_append_right _ h))) (by decide +kernel))) (goodIn_sub (fun _ h => List.mem_append_left _ (List.mem_append_right _ h)) (by decide +kernel))
set_option maxRecDepth 20000 in
theorem gL_law_L_loan : GoodIn wsL_law (va_wsS RL 141 yL_loan wsL_loan) := goodIn_app (goodIn_of _ (by decide +kernel)) ggL_law_L_loan
set_option maxRecDepth 20000 in
theorem ggL_law_X9_loan : GoodIn wsL_law wsX9_loan := goodIn_r _ [640, 541, 542, 543, 5, 544, 94, 178, 179, 180, 185, 186, 187, 188, 189, 328, 329, 330, 331, 195, 196, 197, 198, 1092, 1093, 1094, 1095, 1096, 1097, 1098, 1099, 1100, 1101, 1102, 1103, 1104] (by decide +kernel) (by decide +kernel)
set_option maxRecDepth 20000 in
theorem gL_law_X9_loan : GoodIn wsL_law (wsV RL 143 RX9 yX9_loan wsX9_loan) := goodIn_app (goodIn_of _ (by decide +kernel)) ggL_law_X9_loan
set_option maxRecDepth 20000 in
theorem ggL_law_L_waiting : GoodIn wsL_law wsL_waiting := goodIn_ca (goodIn_r _ [643, 103, 644, 645, 646, 2, 647, 157, 158, 16, 610, 648, 649, 1088, 1089, 1090, 1091, 1105, 1106, 1107, 1108, 1109, 1110, 1123, 1124, 1125, 1126, 1127, 1128, 1129, 1130, 1131, 1132] (by decide +kernel) (by decide +kernel)) (goodIn_sub (fun _ h => List.mem_append_left _ (List.mem_append_right _ h)) (by decide +kernel))
set_option maxRecDepth 20000 in
theorem gL_law_L_waiting : GoodIn wsL_law (va_wsS RL 144 yL_waiting wsL_waiting) := goodIn_app (goodIn_of _ (by decide +kernel)) ggL_law_L_waiting
