set_option maxRecDepth 20000 in
theorem ggL_law_X9_runCommands_0 : GoodIn wsL_law ((wsX9_runCommands).take 65) := goodIn_r _ [986, 987, 988, 718, 989, 990, 991, 5, 992, 993, 994, 995, 996, 997, 998, 999, 1000, 97, 1001, 1002, 1003, 1004, 1005, 1006, 1007, 1008, 1009, 1010, 1011, 1012, 178, 179, 180, 1013, 1014, 1015, 1016, 1017, 1018, 1019, 1020, 1021, 1022, 1023, 1024, 1025, 1026, 1027, 1028, 1029, 98, 1030, 1031, 1032, 195, 196, 197, 198, 189, 169, 170, 171, 172, 96, 94] (by decide +kernel) (by decide +kernel)
set_option maxRecDepth 20000 in
theorem ggL_law_X9_runCommands_1 : GoodIn wsL_law (((wsX9_runCommands).drop 65).take 65) := goodIn_r _ [190, 191, 192, 193, 194, 95, 1033, 1034, 1035, 1036, 173, 174, 175, 176, 177, 224, 225, 226, 227, 228, 229, 230, 231, 367, 368, 369, 370, 371, 372, 373, 374, 375, 376, 377, 378, 418, 419, 420, 421, 422, 423, 424, 425, 426, 427, 428, 429, 320, 321, 322, 323, 430, 431, 432, 433, 328, 329, 330, 331, 312, 313, 314, 315, 434, 435] (by decide +kernel) (by decide +kernel)
set_option maxRecDepth 20000 in
theorem ggL_law_X9_runCommands_2 : GoodIn wsL_law (((wsX9_runCommands).drop 65).drop 65) := goodIn_r _ [436, 437, 324, 325, 326, 327, 468, 469, 470, 471, 472, 473, 474, 475, 491, 492, 493, 494, 514, 515, 516, 517, 537, 538, 539, 540, 541, 542, 543, 544, 332, 333, 334, 335, 247, 248, 249, 250, 304, 305, 306, 307, 308, 309, 310, 311, 316, 317, 318, 319, 1092, 1093, 1094, 1095, 1096, 1097, 1098, 1099, 1100, 1101, 1102, 1103, 1104] (by decide +kernel) (by decide +kernel)
theorem ggL_law_X9_runCommands : GoodIn wsL_law wsX9_runCommands := (goodIn_td 65 ggL_law_X9_runCommands_0 (goodIn_td 65 ggL_law_X9_runCommands_1 ggL_law_X9_runCommands_2))
set_option maxRecDepth 20000 in
theorem gL_law_X9_runCommands : GoodIn wsL_law (wsV RL 182 RX9 yX9_runCommands wsX9_runCommands) := goodIn_app (goodIn_of _ (by decide +kernel)) ggL_law_X9_runCommands
set_option maxRecDepth 20000 in
theorem ggL_law_L_undo : GoodIn wsL_law wsL_undo := goodIn_ca (goodIn_r _ [1039, 104, 1040, 1041, 1042, 2, 1043, 159, 160, 21, 1044, 16, 1045, 1046, 1047, 20, 1048, 113, 83, 114, 115, 116, 15, 117, 118, 35, 119, 120, 121, 122, 37, 41, 45, 49, 123, 124, 125, 40, 126, 127, 54, 128, 55, 56, 57, 129, 130, 131, 44, 132, 133, 134, 61, 135, 62, 63, 64, 65, 66, 67, 68, 136, 137, 138, 48, 139, 140, 72, 141, 73, 74, 75, 76, 77, 1088, 1089, 1090, 1091, 1111, 1112, 1105, 1106, 1107, 1108, 1109, 1110, 1118, 1119, 1120, 1121, 1122, 1123, 1124, 1125, 1126, 1127, 1128, 1129, 1130, 1131, 1132, 1133, 1134, 1135, 1136, 1137, 1138, 1139] (by decide +kernel) (by decide +kernel)) (goodIn_sub (fun _ h => List.mem_append_right _ h) (by decide +kernel))
set_option maxRecDepth 20000 in
theorem gL_law_L_undo : GoodIn wsL_law (va_wsS RL 183 yL_undo wsL_undo) := goodIn_app (goodIn_of _ (by decide +kernel)) ggL_law_L_undo
set_option maxRecDepth 20000 in
theorem ggL_law_X9_undo : GoodIn wsL_law wsX9_undo := goodIn_r _ [1052, 194, 94, 95, 185, 186, 187, 5, 188, 189, 195, 196, 197, 198, 1092, 1093, 1094, 1095, 1096, 1097, 1098, 1099, 1100, 1101, 1102, 1103, 1104] (by decide +kernel) (by decide +kernel)
set_option maxRecDepth 20000 in
theorem gL_law_X9_undo : GoodIn wsL_law (wsV RL 185 RX9 yX9_undo wsX9_undo) := goodIn_app (goodIn_of _ (by decide +kernel)) ggL_law_X9_undo
set_option maxRecDepth 20000 in
theorem ggL_law_X8_digest_0 : GoodIn wsL_law ((wsX8_digest).take 66) := goodIn_r _ [1056, 1057, 21, 1044, 16, 665, 1058, 1059, 2, 1060, 1061, 678, 679, 680, 681, 25, 682, 683, 684, 685, 15, 686, 41, 146, 45, 348, 49, 285, 35, 118, 687, 566, 451, 688, 689, 690, 48, 691, 140, 75, 214, 215, 216, 217, 37, 218, 219, 692, 693, 694, 695, 293, 696, 697, 698, 699, 700, 701, 392, 702, 703, 704, 44, 705, 133, 63] (by decide +kernel) (by decide +kernel)
