set_option maxRecDepth 20000 in
theorem ggL_law_X9_waiting : GoodIn wsL_law wsX9_waiting := goodIn_r _ [653, 185, 186, 187, 5, 188, 189, 654, 655, 656, 657, 94, 320, 321, 322, 323, 195, 196, 197, 198, 1092, 1093, 1094, 1095, 1096, 1097, 1098, 1099, 1100, 1101, 1102, 1103, 1104] (by decide +kernel) (by decide +kernel)
set_option maxRecDepth 20000 in
theorem gL_law_X9_waiting : GoodIn wsL_law (wsV RL 146 RX9 yX9_waiting wsX9_waiting) := goodIn_app (goodIn_of _ (by decide +kernel)) ggL_law_X9_waiting
set_option maxRecDepth 20000 in
theorem ggL_law_L_frozen : GoodIn wsL_law wsL_frozen := goodIn_ca (goodIn_r _ [660, 103, 661, 662, 663, 2, 664, 157, 158, 16, 665, 666, 218, 219, 1088, 1089, 1090, 1091, 1105, 1106, 1107, 1108, 1109, 1110] (by decide +kernel) (by decide +kernel)) (goodIn_sub (fun _ h => List.mem_append_left _ (List.mem_append_right _ h)) (by decide +kernel))
set_option maxRecDepth 20000 in
theorem gL_law_L_frozen : GoodIn wsL_law (va_wsS RL 147 yL_frozen wsL_frozen) := goodIn_app (goodIn_of _ (by decide +kernel)) ggL_law_L_frozen
set_option maxRecDepth 20000 in
theorem ggL_law_X9_frozen : GoodIn wsL_law wsX9_frozen := goodIn_r _ [670, 94, 178, 179, 5, 180, 195, 196, 197, 198, 189, 185, 186, 187, 188, 1092, 1093, 1094, 1095, 1096, 1097, 1098, 1099, 1100, 1101, 1102, 1103, 1104] (by decide +kernel) (by decide +kernel)
set_option maxRecDepth 20000 in
theorem gL_law_X9_frozen : GoodIn wsL_law (wsV RL 149 RX9 yX9_frozen wsX9_frozen) := goodIn_app (goodIn_of _ (by decide +kernel)) ggL_law_X9_frozen
set_option maxRecDepth 20000 in
theorem ggL_law_L_whole : GoodIn wsL_law wsL_whole := goodIn_ca (goodIn_r _ [673, 103, 674, 675, 676, 2, 677, 558, 559, 560, 561, 157, 158, 678, 679, 680, 681, 25, 682, 16, 683, 684, 685, 15, 686, 41, 146, 45, 348, 49, 285, 35, 118, 687, 566, 451, 688, 689, 690, 48, 691, 140, 75, 214, 215, 216, 217, 37, 218, 219, 692, 693, 694, 695, 293, 696, 697, 698, 699, 700, 701, 392, 702, 703, 704, 44, 705, 133, 63, 706, 707, 708, 709, 402, 403, 404, 405, 406, 407, 408, 409, 73, 76, 1088, 1089, 1090, 1091, 1113, 1114, 1115, 1116, 1117, 1105, 1106, 1107, 1108, 1109, 1110, 1118, 1119, 1120, 1121, 1122, 1123, 1124, 1125, 1126, 1127, 1128, 1129, 1130, 1131, 1132, 1133, 1134, 1135, 1136, 1137, 1138, 1139] (by decide +kernel) (by decide +kernel)) (goodIn_sub (fun _ h => List.mem_append_left _ (List.mem_append_right _ h)) (by decide +kernel))
set_option maxRecDepth 20000 in
theorem gL_law_L_whole : GoodIn wsL_law (va_wsS RL 150 yL_whole wsL_whole) := goodIn_app (goodIn_of _ (by decide +kernel)) ggL_law_L_whole
set_option maxRecDepth 20000 in
theorem ggL_law_X9_whole : GoodIn wsL_law wsX9_whole := goodIn_r _ [713, 178, 179, 5, 180, 714, 715, 716, 717, 94, 718, 719, 720, 721, 722, 328, 329, 330, 331, 228, 229, 230, 231, 723, 724, 725, 726, 312, 313, 314, 315, 591, 592, 593, 594, 320, 321, 322, 323, 595, 596, 597, 598, 727, 728, 729, 730, 430, 431, 432, 433, 195, 196, 197, 198, 189, 185, 186, 187, 188, 1092, 1093, 1094, 1095, 1096, 1097, 1098, 1099, 1100, 1101, 1102, 1103, 1104] (by decide +kernel) (by decide +kernel)
set_option maxRecDepth 20000 in
theorem gL_law_X9_whole : GoodIn wsL_law (wsV RL 152 RX9 yX9_whole wsX9_whole) := goodIn_app (goodIn_of _ (by decide +kernel)) ggL_law_X9_whole
set_option maxRecDepth 20000 in
theorem ggL_law_L_reason : GoodIn wsL_law wsL_reason := goodIn_ca (goodIn_r _ [733, 339, 734, 735, 736, 2, 737, 16, 611, 612, 613, 614, 155, 156, 610, 615, 395, 396, 44, 397, 133, 738, 399, 400, 15, 401, 45, 393, 391, 41, 293, 390, 402, 403, 404, 405, 49, 118, 406, 407, 408, 48, 409, 140, 73, 75, 76, 410, 411, 412, 413, 35, 1088, 1089, 1090, 1091, 1105, 1106, 1107, 1108, 1109, 1110, 1123, 1124, 1125, 1126, 1127, 1128, 1129, 1130, 1131, 1132, 1118, 1119, 1120, 1121, 1122, 1133, 1134, 1135, 1136, 1137, 1138, 1139] (by decide +kernel) (by decide +kernel)) (goodIn_sub (fun _ h => List.mem_append_left _ (List.mem_append_left _ (List.mem_append_right _ h))) (by decide +kernel))
set_option maxRecDepth 20000 in
theorem gL_law_L_reason : GoodIn wsL_law (va_wsS RL 153 yL_reason wsL_reason) := goodIn_app (goodIn_of _ (by decide +kernel)) ggL_law_L_reason
set_option maxRecDepth 20000 in
theorem ggL_law_X9_reason : GoodIn wsL_law wsX9_reason := goodIn_r _ [742, 422, 423, 424, 5, 425, 94, 178, 179, 180, 426, 427, 428, 429, 320, 321, 322, 323, 430, 431, 432, 433, 328, 329, 330, 331, 312, 313, 314, 315, 434, 435, 436, 437, 195, 196, 197, 198, 189, 185, 186, 187, 188, 1092, 1093, 1094, 1095, 1096, 1097, 1098, 1099, 1100, 1101, 1102, 1103, 1104] (by decide +kernel) (by decide +kernel)
set_option maxRecDepth 20000 in
theorem gL_law_X9_reason : GoodIn wsL_law (wsV RL 155 RX9 yX9_reason wsX9_reason) := goodIn_app (goodIn_of _ (by decide +kernel)) ggL_law_X9_reason
set_option maxRecDepth 20000 in
theorem ggL_law_L_exemptible : GoodIn wsL_law wsL_exemptible := goodIn_ca (goodIn_r _ [745, 339, 746, 747, 748, 2, 749, 16, 552, 553, 554, 555, 155, 156, 556, 557, 350, 351, 40, 352, 127, 750, 751, 752, 15, 753, 41, 293, 45, 754, 755, 391, 393, 390, 402, 403, 404, 405, 49, 118, 406, 407, 408, 48, 409, 140, 73, 75, 76, 410, 411, 412, 413, 35, 1088, 1089, 1090, 1091, 1105, 1106, 1107, 1108, 1109, 1110, 1118, 1119, 1120, 1121, 1122, 1123, 1124, 1125, 1126, 1127, 1128, 1129, 1130, 1131, 1132, 1133, 1134, 1135, 1136, 1137, 1138, 1139] (by decide +kernel) (by decide +kernel)) (goodIn_sub (fun _ h => List.mem_append_left _ (List.mem_append_left _ (List.mem_append_right _ h))) (by decide +kernel))
set_option maxRecDepth 20000 in
theorem gL_law_L_exemptible : GoodIn wsL_law (va_wsS RL 156 yL_exemptible wsL_exemptible) := goodIn_app (goodIn_of _ (by decide +kernel)) ggL_law_L_exemptible
set_option maxRecDepth 20000 in
theorem ggL_law_X9_exemptible : GoodIn wsL_law wsX9_exemptible := goodIn_r _ [759, 371, 372, 373, 5, 374, 94, 178, 179, 180, 760, 761, 762, 763, 430, 431, 432, 433, 328, 329, 330, 331, 312, 313, 314, 315, 654, 655, 656, 657, 320, 321, 322, 323, 434, 435, 436, 437, 195, 196, 197, 198, 189, 185, 186, 187, 188, 1092, 1093, 1094, 1095, 1096, 1097, 1098, 1099, 1100, 1101, 1102, 1103, 1104] (by decide +kernel) (by decide +kernel)
set_option maxRecDepth 20000 in
theorem gL_law_X9_exemptible : GoodIn wsL_law (wsV RL 158 RX9 yX9_exemptible wsX9_exemptible) := goodIn_app (goodIn_of _ (by decide +kernel)) ggL_law_X9_exemptible
set_option maxRecDepth 20000 in
theorem ggL_law_L_weeksUntil : GoodIn wsL_law wsL_weeksUntil := goodIn_ca (goodIn_ca (goodIn_r _ [766, 339, 103, 767, 768, 769, 2, 770, 16, 771, 17, 556, 772, 552, 553, 554, 555, 155, 156, 557, 350, 351, 40, 352, 127, 773, 774, 775, 776, 157, 158, 777, 353, 354, 778, 411, 412, 15, 413, 35, 779, 115, 116, 117, 118, 119, 120, 121, 122, 37, 41, 45, 49, 123, 124, 125, 126, 54, 128, 55, 56, 57, 129, 130, 131, 44, 132, 133, 134, 61, 135, 62, 63, 64, 65, 66, 67, 68, 136, 137, 138, 48, 139, 140, 72, 141, 73, 74, 75, 76, 77, 258, 259, 260, 261, 262, 263, 264, 265, 146, 266, 267, 268, 269, 270, 271, 272, 273, 274, 275, 276, 277, 278, 279, 280, 281, 282, 283, 284, 285, 286, 287, 288, 289, 290, 291, 292, 293, 294, 295, 296, 297, 298, 299, 1088, 1089, 1090, 1091, 1105, 1106, 1107, 1108, 1109, 1110, 1118, 1119, 1120, 1121, 1122, 1123, 1124, 1125, 1126, 1127, 1128, 1129, 1130, 1131, 1132, 1133, 1134, 1135, 1136, 1137, 1138, 1139] (by decide +kernel) (by decide +kernel)) (goodIn_sub (fun _ h => List.mem_append_left _ (List.mem_append_left _ (List.mem_append_right _ h))) (by decide +kernel))) (goodIn_sub (fun _ h => List.mem_append_left _ (List.mem_append_right _ h)) (by decide +kernel))
set_option maxRecDepth 20000 in
theorem gL_law_L_weeksUntil : GoodIn wsL_law (va_wsS RL 159 yL_weeksUntil wsL_weeksUntil) := goodIn_app (goodIn_of _ (by decide +kernel)) ggL_law_L_weeksUntil
