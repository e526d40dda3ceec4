theorem goodIn_td {big ws : List Cond} (n : Nat) (h1 : GoodIn big (ws.take n)) (h2 : GoodIn big (ws.drop n)) : GoodIn big ws := fun w hw => by
  rw [← List.take_append_drop n ws] at hw
  exact goodIn_app h1 h2 w hw
set_option maxRecDepth 20000 in
theorem ggL_law_X9_clearCommands : GoodIn wsL_law wsX9_clearCommands := goodIn_r _ [860, 718, 195, 196, 197, 5, 198, 189, 1092, 1093, 1094, 1095, 1096, 1097, 1098, 1099, 1100, 1101, 1102, 1103, 1104] (by decide +kernel) (by decide +kernel)
set_option maxRecDepth 20000 in
theorem gL_law_X9_clearCommands : GoodIn wsL_law (wsV RL 178 RX9 yX9_clearCommands wsX9_clearCommands) := goodIn_app (goodIn_of _ (by decide +kernel)) ggL_law_X9_clearCommands
set_option maxRecDepth 20000 in
theorem ggL_law_X8_runCommands_0 : GoodIn wsL_law ((wsX8_runCommands).take 77) := goodIn_r _ [864, 25, 21, 16, 865, 866, 867, 24, 868, 869, 870, 871, 872, 873, 874, 875, 876, 877, 848, 878, 879, 880, 881, 89, 882, 883, 884, 885, 886, 887, 888, 889, 890, 891, 892, 893, 894, 895, 896, 897, 898, 899, 900, 901, 902, 903, 904, 905, 906, 907, 908, 909, 910, 911, 912, 913, 914, 915, 916, 917, 918, 919, 920, 921, 922, 923, 924, 925, 926, 927, 928, 929, 930, 931, 932, 933, 934] (by decide +kernel) (by decide +kernel)
set_option maxRecDepth 20000 in
theorem ggL_law_X8_runCommands_1 : GoodIn wsL_law (((wsX8_runCommands).drop 77).take 77) := goodIn_r _ [935, 936, 937, 938, 939, 940, 941, 942, 943, 944, 945, 946, 947, 948, 949, 950, 951, 952, 953, 954, 87, 955, 956, 957, 958, 959, 960, 961, 109, 110, 111, 20, 112, 83, 113, 114, 115, 116, 15, 117, 118, 35, 119, 120, 121, 122, 37, 41, 45, 49, 123, 124, 125, 40, 126, 127, 54, 128, 55, 56, 57, 129, 130, 131, 44, 132, 133, 134, 61, 135, 62, 63, 64, 65, 66, 67, 68] (by decide +kernel) (by decide +kernel)
set_option maxRecDepth 20000 in
theorem ggL_law_X8_runCommands_2 : GoodIn wsL_law ((((wsX8_runCommands).drop 77).drop 77).take 77) := goodIn_r _ [136, 137, 138, 48, 139, 140, 72, 141, 73, 74, 75, 76, 77, 962, 963, 964, 2, 965, 966, 967, 968, 969, 970, 971, 972, 973, 974, 975, 976, 977, 978, 979, 980, 981, 982, 142, 143, 144, 145, 146, 147, 148, 149, 150, 210, 211, 212, 213, 214, 215, 216, 217, 218, 219, 344, 345, 346, 347, 348, 349, 350, 351, 352, 353, 354, 355, 356, 357, 358, 359, 360, 361, 362, 386, 387, 388, 389] (by decide +kernel) (by decide +kernel)
set_option maxRecDepth 20000 in
theorem ggL_law_X8_runCommands_3 : GoodIn wsL_law (((((wsX8_runCommands).drop 77).drop 77).drop 77).take 77) := goodIn_r _ [390, 293, 391, 392, 393, 394, 395, 396, 397, 398, 399, 400, 401, 402, 403, 404, 405, 406, 407, 408, 409, 410, 411, 412, 413, 445, 446, 447, 448, 449, 450, 288, 275, 276, 277, 451, 452, 453, 454, 455, 456, 457, 458, 459, 460, 461, 462, 463, 483, 484, 485, 486, 502, 503, 504, 505, 285, 506, 507, 508, 509, 525, 526, 527, 528, 287, 529, 530, 531, 532, 289, 290, 291, 292, 294, 295, 296] (by decide +kernel) (by decide +kernel)
set_option maxRecDepth 20000 in
theorem ggL_law_X8_runCommands_4 : GoodIn wsL_law (((((wsX8_runCommands).drop 77).drop 77).drop 77).drop 77) := goodIn_r _ [297, 298, 299, 239, 240, 241, 242, 258, 259, 260, 261, 262, 263, 264, 265, 266, 267, 268, 269, 270, 271, 272, 273, 274, 278, 279, 280, 281, 282, 283, 284, 286, 161, 162, 163, 164, 1088, 1089, 1090, 1091, 1113, 1114, 1115, 1116, 1117, 1111, 1112, 1105, 1106, 1107, 1108, 1109, 1110, 1118, 1119, 1120, 1121, 1122, 1123, 1124, 1125, 1126, 1127, 1128, 1129, 1130, 1131, 1132, 1133, 1134, 1135, 1136, 1137, 1138, 1139] (by decide +kernel) (by decide +kernel)
theorem ggL_law_X8_runCommands : GoodIn wsL_law wsX8_runCommands := (goodIn_td 77 ggL_law_X8_runCommands_0 (goodIn_td 77 ggL_law_X8_runCommands_1 (goodIn_td 77 ggL_law_X8_runCommands_2 (goodIn_td 77 ggL_law_X8_runCommands_3 ggL_law_X8_runCommands_4))))
set_option maxRecDepth 20000 in
theorem gL_law_X8_runCommands : GoodIn wsL_law (wsV RL 179 RX8 yX8_runCommands wsX8_runCommands) := goodIn_app (goodIn_of _ (by decide +kernel)) ggL_law_X8_runCommands
