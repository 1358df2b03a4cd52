set_option maxRecDepth 100000 in
theorem wi_21 : GoodIn lw_tbl wsL_law0_r21 := goodIn_p wsL_law0_r21 [954, 623, 628, 958] (by decide +kernel) (by decide +kernel)
set_option maxRecDepth 100000 in
theorem wi_22 : GoodIn lw_tbl wsL_law0_r22 := goodIn_p wsL_law0_r22 [650, 654, 659, 962] (by decide +kernel) (by decide +kernel)
set_option maxRecDepth 100000 in
theorem wi_23 : GoodIn lw_tbl wsL_law0_r23 := goodIn_p wsL_law0_r23 [666, 670, 678, 686, 690] (by decide +kernel) (by decide +kernel)
set_option maxRecDepth 100000 in
theorem wi_24 : GoodIn lw_tbl wsL_law0_r24 := goodIn_p wsL_law0_r24 [695, 706, 713] (by decide +kernel) (by decide +kernel)
set_option maxRecDepth 100000 in
theorem wi_25 : GoodIn lw_tbl wsL_law0_r25 := goodIn_p wsL_law0_r25 [717, 966, 970, 976, 980, 984] (by decide +kernel) (by decide +kernel)
set_option maxRecDepth 100000 in
theorem wi_26 : GoodIn lw_tbl wsL_law0_r26 := goodIn_p wsL_law0_r26 [988, 992, 725, 996] (by decide +kernel) (by decide +kernel)
set_option maxRecDepth 100000 in
theorem wi_27 : GoodIn lw_tbl wsL_law0_r27 := goodIn_p wsL_law0_r27 [733, 1000, 740, 1004, 747] (by decide +kernel) (by decide +kernel)
set_option maxRecDepth 100000 in
theorem wi_28 : GoodIn lw_tbl wsL_law0_r28 := goodIn_p wsL_law0_r28 [751, 1008, 758, 1012] (by decide +kernel) (by decide +kernel)
set_option maxRecDepth 100000 in
theorem wi_29 : GoodIn lw_tbl wsL_law0_r29 := goodIn_p wsL_law0_r29 [765, 1016, 774, 1020, 781] (by decide +kernel) (by decide +kernel)
set_option maxRecDepth 100000 in
theorem wi_30 : GoodIn lw_tbl wsL_law0_r30 := goodIn_p wsL_law0_r30 [785, 1024] (by decide +kernel) (by decide +kernel)
