set_option maxRecDepth 100000 in
theorem wi_wsX100 : GoodIn lw_tbl wsX100 := goodIn_p wsX100 [] (by decide +kernel) (by decide +kernel)
set_option maxRecDepth 100000 in
theorem wi_wsX110 : GoodIn lw_tbl wsX110 := goodIn_p wsX110 [] (by decide +kernel) (by decide +kernel)
set_option maxRecDepth 100000 in
theorem wi_wsX60 : GoodIn lw_tbl wsX60 := goodIn_p wsX60 [] (by decide +kernel) (by decide +kernel)
set_option maxRecDepth 100000 in
theorem wi_wsX00 : GoodIn lw_tbl wsX00 := goodIn_p wsX00 [] (by decide +kernel) (by decide +kernel)
set_option maxRecDepth 100000 in
theorem wi_wsX70 : GoodIn lw_tbl wsX70 := goodIn_p wsX70 [] (by decide +kernel) (by decide +kernel)
set_option maxRecDepth 100000 in
theorem wi_wsX10 : GoodIn lw_tbl wsX10 := goodIn_p wsX10 [] (by decide +kernel) (by decide +kernel)
set_option maxRecDepth 100000 in
theorem wi_wsX20 : GoodIn lw_tbl wsX20 := goodIn_p wsX20 [] (by decide +kernel) (by decide +kernel)
set_option maxRecDepth 100000 in
theorem wi_wsX30 : GoodIn lw_tbl wsX30 := goodIn_p wsX30 [] (by decide +kernel) (by decide +kernel)
set_option maxRecDepth 100000 in
theorem wi_wsX40 : GoodIn lw_tbl wsX40 := goodIn_p wsX40 [] (by decide +kernel) (by decide +kernel)
set_option maxRecDepth 100000 in
theorem wi_wsX50 : GoodIn lw_tbl wsX50 := goodIn_p wsX50 [] (by decide +kernel) (by decide +kernel)
set_option maxRecDepth 100000 in
theorem wi_wsX80 : GoodIn lw_tbl wsX80 := goodIn_p wsX80 [] (by decide +kernel) (by decide +kernel)
set_option maxRecDepth 100000 in
theorem wi_x0 : ∀ w ∈ (vx_atS RX10 32 "java/lang/IllegalArgumentException" ["java/lang/RuntimeException", "java/lang/Exception"]).filter goodWord, w ∈ lw_tbl := by decide +kernel
set_option maxRecDepth 100000 in
theorem wi_x1 : ∀ w ∈ (vx_atS RX10 169 "java/lang/IndexOutOfBoundsException" ["java/lang/RuntimeException", "java/lang/Exception"]).filter goodWord, w ∈ lw_tbl := by decide +kernel
set_option maxRecDepth 100000 in
theorem wi_x2 : ∀ w ∈ (vx_atS RX10 118 "java/lang/IllegalStateException" ["java/lang/RuntimeException", "java/lang/Exception"]).filter goodWord, w ∈ lw_tbl := by decide +kernel
set_option maxRecDepth 100000 in
theorem wi_x3 : ∀ w ∈ (vx_atS RX10 218 "java/lang/UnsupportedOperationException" ["java/lang/RuntimeException", "java/lang/Exception"]).filter goodWord, w ∈ lw_tbl := by decide +kernel
set_option maxRecDepth 100000 in
theorem wi_all : ∀ w ∈ wsL_law, w ∈ lw_tbl := (fun w h => (List.mem_append.mp h).elim ((fun w h => (List.mem_append.mp h).elim ((fun w h => (List.mem_append.mp h).elim ((fun w h => (List.mem_append.mp h).elim ((fun w h => (List.mem_append.mp h).elim ((fun w h => (List.mem_append.mp h).elim ((fun w h => (List.mem_append.mp h).elim ((fun w h => (List.mem_append.mp h).elim ((fun w h => (List.mem_append.mp h).elim ((fun w h => (List.mem_append.mp h).elim ((fun w h => (List.mem_append.mp h).elim ((fun w h => (List.mem_append.mp h).elim ((fun w h => (List.mem_append.mp h).elim ((fun w h => (List.mem_append.mp h).elim ((fun w h => (List.mem_append.mp h).elim ((fun w h => (List.mem_append.mp h).elim ((fun w h => (List.mem_append.mp h).elim (fun h => (wi_1 w h).1) ((fun w h => (List.mem_append.mp h).elim (fun h => (wi_2 w h).1) ((fun w h => (List.mem_append.mp h).elim (fun h => (wi_3 w h).1) ((fun w h => (List.mem_append.mp h).elim (fun h => (wi_4 w h).1) ((fun w h => (List.mem_append.mp h).elim (fun h => (wi_5 w h).1) ((fun w h => (List.mem_append.mp h).elim (fun h => (wi_6 w h).1) ((fun w h => (List.mem_append.mp h).elim (fun h => (wi_7 w h).1) ((fun w h => (List.mem_append.mp h).elim (fun h => (wi_8 w h).1) ((fun w h => (List.mem_append.mp h).elim (fun h => (wi_9 w h).1) ((fun w h => (List.mem_append.mp h).elim (fun h => (wi_10 w h).1) ((fun w h => (List.mem_append.mp h).elim (fun h => (wi_11 w h).1) ((fun w h => (List.mem_append.mp h).elim (fun h => (wi_12 w h).1) ((fun w h => (List.mem_append.mp h).elim (fun h => (wi_13 w h).1) ((fun w h => (List.mem_append.mp h).elim (fun h => (wi_14 w h).1) ((fun w h => (List.mem_append.mp h).elim (fun h => (wi_15 w h).1) ((fun w h => (List.mem_append.mp h).elim (fun h => (wi_16 w h).1) ((fun w h => (List.mem_append.mp h).elim (fun h => (wi_17 w h).1) ((fun w h => (List.mem_append.mp h).elim (fun h => (wi_18 w h).1) ((fun w h => (List.mem_append.mp h).elim (fun h => (wi_19 w h).1) ((fun w h => (List.mem_append.mp h).elim (fun h => (wi_20 w h).1) ((fun w h => (List.mem_append.mp h).elim (fun h => (wi_21 w h).1) ((fun w h => (List.mem_append.mp h).elim (fun h => (wi_22 w h).1) ((fun w h => (List.mem_append.mp h).elim (fun h => (wi_23 w h).1) ((fun w h => (List.mem_append.mp h).elim (fun h => (wi_24 w h).1) ((fun w h => (List.mem_append.mp h).elim (fun h => (wi_25 w h).1) ((fun w h => (List.mem_append.mp h).elim (fun h => (wi_26 w h).1) ((fun w h => (List.mem_append.mp h).elim (fun h => (wi_27 w h).1) ((fun w h => (List.mem_append.mp h).elim (fun h => (wi_28 w h).1) ((fun w h => (List.mem_append.mp h).elim (fun h => (wi_29 w h).1) ((fun w h => (wi_30 w h).1) w)) w)) w)) w)) w)) w)) w)) w)) w)) w)) w)) w)) w)) w)) w)) w)) w)) w)) w)) w)) w)) w)) w)) w)) w)) w)) w)) w)) w)) w) (fun h => (wi_wsX100 w h).1)) w) (fun h => (wi_wsX110 w h).1)) w) (fun h => (wi_wsX60 w h).1)) w) (fun h => (wi_wsX00 w h).1)) w) (fun h => (wi_wsX70 w h).1)) w) (fun h => (wi_wsX10 w h).1)) w) (fun h => (wi_wsX20 w h).1)) w) (fun h => (wi_wsX30 w h).1)) w) (fun h => (wi_wsX40 w h).1)) w) (fun h => (wi_wsX50 w h).1)) w) (fun h => (wi_wsX80 w h).1)) w) (fun h => absurd h List.not_mem_nil)) w) (fun h => wi_x0 w h)) w) (fun h => wi_x1 w h)) w) (fun h => wi_x2 w h)) w) (fun h => wi_x3 w h))
set_option maxRecDepth 100000 in
theorem wi_nest : ∀ w ∈ nestW, w ∈ lw_tbl := by decide +kernel
set_option maxRecDepth 100000 in
theorem wi_str : ∀ q ∈ strW, Cond.stringRef q.1 q.2.1 q.2.2 ∈ lw_tbl := by decide +kernel
set_option maxRecDepth 100000 in
theorem wi_ao : Cond.arrayOver (.object "BagViews$Relation") ∈ lw_tbl := by decide +kernel
set_option maxRecDepth 100000 in
theorem wi_s1 : Cond.laysStatic Bundle.tN "UNASSIGNED_STACK" Bundle.steD ∈ lw_tbl ∧ Cond.laysStatic Bundle.tN "SUPPRESSED_SENTINEL" Bundle.listD ∈ lw_tbl ∧ Cond.initialized Bundle.tN ∈ lw_tbl := by decide +kernel
set_option maxRecDepth 100000 in
theorem wi_g1 : Cond.isRef (.static Bundle.tN "UNASSIGNED_STACK" Bundle.steD) ∈ flatC (Jvm.Cond.and given_1 narrow_1) ∧ Cond.isRef (.static Bundle.tN "SUPPRESSED_SENTINEL" Bundle.listD) ∈ flatC (Jvm.Cond.and given_1 narrow_1) := by decide +kernel
set_option maxRecDepth 100000 in
theorem wi_nc : ∀ q ∈ ncW, Cond.not (.castable q.1 q.2) ∈ flatC (Jvm.Cond.and given_1 narrow_1) := by decide +kernel
