set_option maxRecDepth 100000 in
theorem wi_11 : GoodIn lw_tbl wsL_law0_r11 := goodIn_p wsL_law0_r11 [442, 446, 451, 455, 458] (by decide +kernel) (by decide +kernel)
set_option maxRecDepth 100000 in
theorem wi_12 : GoodIn lw_tbl wsL_law0_r12 := goodIn_p wsL_law0_r12 [463, 470, 475] (by decide +kernel) (by decide +kernel)
set_option maxRecDepth 100000 in
theorem wi_13 : GoodIn lw_tbl wsL_law0_r13 := goodIn_p wsL_law0_r13 [481, 487] (by decide +kernel) (by decide +kernel)
set_option maxRecDepth 100000 in
theorem wi_14 : GoodIn lw_tbl wsL_law0_r14 := goodIn_p wsL_law0_r14 [492, 497, 866, 870] (by decide +kernel) (by decide +kernel)
set_option maxRecDepth 100000 in
theorem wi_15 : GoodIn lw_tbl wsL_law0_r15 := goodIn_p wsL_law0_r15 [874, 878, 882, 886, 890, 894] (by decide +kernel) (by decide +kernel)
set_option maxRecDepth 100000 in
theorem wi_16 : GoodIn lw_tbl wsL_law0_r16 := goodIn_p wsL_law0_r16 [898, 902, 906, 910, 915] (by decide +kernel) (by decide +kernel)
set_option maxRecDepth 100000 in
theorem wi_17 : GoodIn lw_tbl wsL_law0_r17 := goodIn_p wsL_law0_r17 [919, 923, 927, 930, 934, 938] (by decide +kernel) (by decide +kernel)
set_option maxRecDepth 100000 in
theorem wi_18 : GoodIn lw_tbl wsL_law0_r18 := goodIn_p wsL_law0_r18 [522, 525, 528, 535, 942] (by decide +kernel) (by decide +kernel)
set_option maxRecDepth 100000 in
theorem wi_19 : GoodIn lw_tbl wsL_law0_r19 := goodIn_p wsL_law0_r19 [551, 556, 946, 575] (by decide +kernel) (by decide +kernel)
set_option maxRecDepth 100000 in
theorem wi_20 : GoodIn lw_tbl wsL_law0_r20 := goodIn_p wsL_law0_r20 [581, 592, 950, 605, 610] (by decide +kernel) (by decide +kernel)
