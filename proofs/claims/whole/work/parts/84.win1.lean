set_option maxRecDepth 100000 in
theorem wi_1 : GoodIn lw_tbl wsL_law0_r1 := goodIn_p wsL_law0_r1 [69, 72, 78] (by decide +kernel) (by decide +kernel)
set_option maxRecDepth 100000 in
theorem wi_2 : GoodIn lw_tbl wsL_law0_r2 := goodIn_p wsL_law0_r2 [84, 790] (by decide +kernel) (by decide +kernel)
set_option maxRecDepth 100000 in
theorem wi_3 : GoodIn lw_tbl wsL_law0_r3 := goodIn_p wsL_law0_r3 [155] (by decide +kernel) (by decide +kernel)
set_option maxRecDepth 100000 in
theorem wi_4 : GoodIn lw_tbl wsL_law0_r4 := goodIn_p wsL_law0_r4 [159, 231, 235, 271, 275] (by decide +kernel) (by decide +kernel)
set_option maxRecDepth 100000 in
theorem wi_5 : GoodIn lw_tbl wsL_law0_r5 := goodIn_p wsL_law0_r5 [855, 858, 862, 851, 283] (by decide +kernel) (by decide +kernel)
set_option maxRecDepth 100000 in
theorem wi_6 : GoodIn lw_tbl wsL_law0_r6 := goodIn_p wsL_law0_r6 [287, 291, 298, 301] (by decide +kernel) (by decide +kernel)
set_option maxRecDepth 100000 in
theorem wi_7 : GoodIn lw_tbl wsL_law0_r7 := goodIn_p wsL_law0_r7 [309, 306, 374, 380] (by decide +kernel) (by decide +kernel)
set_option maxRecDepth 100000 in
theorem wi_8 : GoodIn lw_tbl wsL_law0_r8 := goodIn_p wsL_law0_r8 [384, 388, 392, 396, 400] (by decide +kernel) (by decide +kernel)
set_option maxRecDepth 100000 in
theorem wi_9 : GoodIn lw_tbl wsL_law0_r9 := goodIn_p wsL_law0_r9 [404, 408, 413, 420, 423] (by decide +kernel) (by decide +kernel)
set_option maxRecDepth 100000 in
theorem wi_10 : GoodIn lw_tbl wsL_law0_r10 := goodIn_p wsL_law0_r10 [428, 432, 436] (by decide +kernel) (by decide +kernel)
