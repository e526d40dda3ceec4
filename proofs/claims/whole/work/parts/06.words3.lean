set_option maxRecDepth 20000 in
theorem q_wsL_law0_r25 : ∀ w ∈ wsL_law0_r25, w ∈ lw_tbl := fun w h => (goodIn_p wsL_law0_r25 [675, 679, 1240, 1244, 1248, 1252] (by decide +kernel) (by decide +kernel) w h).1
set_option maxRecDepth 20000 in
theorem q_wsL_law0_r26 : ∀ w ∈ wsL_law0_r26, w ∈ lw_tbl := fun w h => (goodIn_p wsL_law0_r26 [1256, 900, 904, 691, 1260] (by decide +kernel) (by decide +kernel) w h).1
set_option maxRecDepth 20000 in
theorem q_wsL_law0_r27 : ∀ w ∈ wsL_law0_r27, w ∈ lw_tbl := fun w h => (goodIn_p wsL_law0_r27 [913, 699, 1264, 922] (by decide +kernel) (by decide +kernel) w h).1
set_option maxRecDepth 20000 in
theorem q_wsL_law0_r28 : ∀ w ∈ wsL_law0_r28, w ∈ lw_tbl := fun w h => (goodIn_p wsL_law0_r28 [1268, 1272, 930, 1276] (by decide +kernel) (by decide +kernel) w h).1
set_option maxRecDepth 20000 in
theorem q_wsL_law0_r29 : ∀ w ∈ wsL_law0_r29, w ∈ lw_tbl := fun w h => (goodIn_p wsL_law0_r29 [938, 627, 631, 635, 639] (by decide +kernel) (by decide +kernel) w h).1
set_option maxRecDepth 20000 in
theorem q_wsL_law0_r30 : ∀ w ∈ wsL_law0_r30, w ∈ lw_tbl := fun w h => (goodIn_p wsL_law0_r30 [642, 646, 650, 654, 1280, 1284] (by decide +kernel) (by decide +kernel) w h).1
set_option maxRecDepth 20000 in
theorem q_wsL_law0_r31 : ∀ w ∈ wsL_law0_r31, w ∈ lw_tbl := fun w h => (goodIn_p wsL_law0_r31 [1288, 1292, 1296, 945, 1300] (by decide +kernel) (by decide +kernel) w h).1
set_option maxRecDepth 20000 in
theorem q_wsL_law0_r32 : ∀ w ∈ wsL_law0_r32, w ∈ lw_tbl := fun w h => (goodIn_p wsL_law0_r32 [953, 683, 1304, 1308] (by decide +kernel) (by decide +kernel) w h).1
set_option maxRecDepth 20000 in
theorem q_wsL_law0_r33 : ∀ w ∈ wsL_law0_r33, w ∈ lw_tbl := fun w h => (goodIn_p wsL_law0_r33 [960, 964, 1312, 1316] (by decide +kernel) (by decide +kernel) w h).1
set_option maxRecDepth 20000 in
theorem q_wsL_law0_r34 : ∀ w ∈ wsL_law0_r34, w ∈ lw_tbl := fun w h => (goodIn_p wsL_law0_r34 [975, 980, 1320, 1324, 319, 323] (by decide +kernel) (by decide +kernel) w h).1
set_option maxRecDepth 20000 in
theorem q_wsL_law0_r35 : ∀ w ∈ wsL_law0_r35, w ∈ lw_tbl := fun w h => (goodIn_p wsL_law0_r35 [1328, 1332, 987, 1336] (by decide +kernel) (by decide +kernel) w h).1
set_option maxRecDepth 20000 in
theorem q_wsL_law0_r36 : ∀ w ∈ wsL_law0_r36, w ∈ lw_tbl := fun w h => (goodIn_p wsL_law0_r36 [997, 1003, 1340, 327, 1344] (by decide +kernel) (by decide +kernel) w h).1
