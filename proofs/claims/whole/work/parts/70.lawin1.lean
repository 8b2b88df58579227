/-! the words of the law stand in its tables -/
set_option maxRecDepth 20000 in
theorem lin_1 : ∀ w ∈ wsL_law_r1, w ∈ lw_tbl := fun w h => (goodIn_p wsL_law_r1 [90, 93] (by decide +kernel) (by decide +kernel) w h).1
set_option maxRecDepth 20000 in
theorem lin_2 : ∀ w ∈ wsL_law_r2, w ∈ lw_tbl := fun w h => (goodIn_p wsL_law_r2 [98] (by decide +kernel) (by decide +kernel) w h).1
set_option maxRecDepth 20000 in
theorem lin_3 : ∀ w ∈ wsL_law_r3, w ∈ lw_tbl := fun w h => (goodIn_p wsL_law_r3 [103, 112, 169, 199] (by decide +kernel) (by decide +kernel) w h).1
set_option maxRecDepth 20000 in
theorem lin_4 : ∀ w ∈ wsL_law_r4, w ∈ lw_tbl := fun w h => (goodIn_p wsL_law_r4 [225, 244, 817] (by decide +kernel) (by decide +kernel) w h).1
set_option maxRecDepth 20000 in
theorem lin_5 : ∀ w ∈ wsL_law_r5, w ∈ lw_tbl := fun w h => (goodIn_p wsL_law_r5 [822, 297, 301, 908] (by decide +kernel) (by decide +kernel) w h).1
set_option maxRecDepth 20000 in
theorem lin_6 : ∀ w ∈ wsL_law_r6, w ∈ lw_tbl := fun w h => (goodIn_p wsL_law_r6 [912, 305, 309, 314] (by decide +kernel) (by decide +kernel) w h).1
set_option maxRecDepth 20000 in
theorem lin_7 : ∀ w ∈ wsL_law_r7, w ∈ lw_tbl := fun w h => (goodIn_p wsL_law_r7 [318, 322, 326, 330, 335] (by decide +kernel) (by decide +kernel) w h).1
set_option maxRecDepth 20000 in
theorem lin_8 : ∀ w ∈ wsL_law_r8, w ∈ lw_tbl := fun w h => (goodIn_p wsL_law_r8 [339, 343, 349, 353, 356] (by decide +kernel) (by decide +kernel) w h).1
set_option maxRecDepth 20000 in
theorem lin_9 : ∀ w ∈ wsL_law_r9, w ∈ lw_tbl := fun w h => (goodIn_p wsL_law_r9 [359, 364, 367, 370, 373, 377] (by decide +kernel) (by decide +kernel) w h).1
set_option maxRecDepth 20000 in
theorem lin_10 : ∀ w ∈ wsL_law_r10, w ∈ lw_tbl := fun w h => (goodIn_p wsL_law_r10 [392, 400, 405, 409, 413, 417] (by decide +kernel) (by decide +kernel) w h).1
set_option maxRecDepth 20000 in
theorem lin_11 : ∀ w ∈ wsL_law_r11, w ∈ lw_tbl := fun w h => (goodIn_p wsL_law_r11 [420, 426, 430, 917, 920] (by decide +kernel) (by decide +kernel) w h).1
set_option maxRecDepth 20000 in
theorem lin_12 : ∀ w ∈ wsL_law_r12, w ∈ lw_tbl := fun w h => (goodIn_p wsL_law_r12 [924, 928, 931, 934, 938, 942, 946] (by decide +kernel) (by decide +kernel) w h).1
set_option maxRecDepth 20000 in
theorem lin_13 : ∀ w ∈ wsL_law_r13, w ∈ lw_tbl := fun w h => (goodIn_p wsL_law_r13 [950, 954, 958, 962, 966, 970] (by decide +kernel) (by decide +kernel) w h).1
set_option maxRecDepth 20000 in
theorem lin_14 : ∀ w ∈ wsL_law_r14, w ∈ lw_tbl := fun w h => (goodIn_p wsL_law_r14 [974, 978, 982, 439, 986] (by decide +kernel) (by decide +kernel) w h).1
set_option maxRecDepth 20000 in
theorem lin_15 : ∀ w ∈ wsL_law_r15, w ∈ lw_tbl := fun w h => (goodIn_p wsL_law_r15 [993, 446, 997, 450, 453] (by decide +kernel) (by decide +kernel) w h).1
