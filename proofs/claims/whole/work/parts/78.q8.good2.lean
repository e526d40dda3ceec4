set_option maxRecDepth 20000 in
theorem ggL_law_X8_digest_1 : GoodIn wsL_law (((wsX8_digest).drop 66).take 66) := goodIn_r _ [706, 707, 708, 709, 402, 403, 404, 405, 406, 407, 408, 409, 73, 76, 666, 1062, 1063, 1064, 1065, 556, 1066, 562, 563, 564, 565, 567, 568, 569, 570, 61, 64, 571, 572, 573, 574, 575, 576, 577, 578, 72, 579, 580, 581, 582, 266, 267, 268, 269, 66, 750, 751, 752, 753, 754, 755, 391, 393, 390, 410, 411, 412, 413, 1067, 1068, 1069, 1070] (by decide +kernel) (by decide +kernel)
set_option maxRecDepth 20000 in
theorem ggL_law_X8_digest_2 : GoodIn wsL_law (((wsX8_digest).drop 66).drop 66) := goodIn_r _ [610, 1071, 648, 649, 616, 617, 618, 619, 62, 65, 67, 1072, 1073, 1074, 1075, 631, 1076, 633, 634, 635, 636, 74, 77, 812, 813, 814, 815, 1088, 1089, 1090, 1091, 1111, 1112, 1105, 1106, 1107, 1108, 1109, 1110, 1113, 1114, 1115, 1116, 1117, 1118, 1119, 1120, 1121, 1122, 1123, 1124, 1125, 1126, 1127, 1128, 1129, 1130, 1131, 1132, 1133, 1134, 1135, 1136, 1137, 1138, 1139] (by decide +kernel) (by decide +kernel)
theorem ggL_law_X8_digest : GoodIn wsL_law wsX8_digest := (goodIn_td 66 ggL_law_X8_digest_0 (goodIn_td 66 ggL_law_X8_digest_1 ggL_law_X8_digest_2))
set_option maxRecDepth 20000 in
theorem gL_law_X8_digest : GoodIn wsL_law (wsV RL 186 RX8 yX8_digest wsX8_digest) := goodIn_app (goodIn_of _ (by decide +kernel)) ggL_law_X8_digest
set_option maxRecDepth 20000 in
theorem ggL_law_X9_digest : GoodIn wsL_law wsX9_digest := goodIn_r _ [1080, 189, 1081, 1082, 194, 94, 1083, 1084, 1085, 5, 1086, 1087, 714, 715, 716, 717, 718, 719, 720, 721, 722, 328, 329, 330, 331, 228, 229, 230, 231, 723, 724, 725, 726, 312, 313, 314, 315, 591, 592, 593, 594, 320, 321, 322, 323, 595, 596, 597, 598, 727, 728, 729, 730, 430, 431, 432, 433, 587, 588, 589, 590, 599, 600, 601, 602, 316, 317, 318, 319, 760, 761, 762, 763, 654, 655, 656, 657, 434, 435, 436, 437, 820, 821, 822, 823, 1092, 1093, 1094, 1095, 1096, 1097, 1098, 1099, 1100, 1101, 1102, 1103, 1104] (by decide +kernel) (by decide +kernel)
set_option maxRecDepth 20000 in
theorem gL_law_X9_digest : GoodIn wsL_law (wsV RL 190 RX9 yX9_digest wsX9_digest) := goodIn_app (goodIn_of _ (by decide +kernel)) ggL_law_X9_digest
