theorem xgL0 : GoodIn wsL_law ((vx_atM "java/lang/ArrayIndexOutOfBoundsException" ["java/lang/IndexOutOfBoundsException", "java/lang/RuntimeException", "java/lang/Exception"]).filter goodWord) := goodIn_sub (fun _ h => (List.mem_append_right _ (List.mem_append_right _ (List.mem_append_right _ (List.mem_append_right _ (List.mem_append_right _ (List.mem_append_right _ (List.mem_append_right _ (List.mem_append_right _ (List.mem_append_right _ (List.mem_append_right _ (List.mem_append_right _ (List.mem_append_right _ (List.mem_append_right _ (List.mem_append_right _ (List.mem_append_right _ (List.mem_append_right _ (List.mem_append_right _ (List.mem_append_right _ (List.mem_append_right _ (List.mem_append_right _ (List.mem_append_right _ (List.mem_append_right _ (List.mem_append_right _ (List.mem_append_right _ (List.mem_append_right _ (List.mem_append_right _ (List.mem_append_right _ (List.mem_append_right _ (List.mem_append_right _ (List.mem_append_right _ (List.mem_append_right _ (List.mem_append_right _ (List.mem_append_right _ (List.mem_append_right _ (List.mem_append_right _ (List.mem_append_left _ h))))))))))))))))))))))))))))))))))))) (by decide +kernel)
theorem xgL1 : GoodIn wsL_law ((vx_atS RX3 55 "java/lang/IllegalArgumentException" ["java/lang/RuntimeException", "java/lang/Exception"]).filter goodWord) := goodIn_sub (fun _ h => (List.mem_append_right _ (List.mem_append_right _ (List.mem_append_right _ (List.mem_append_right _ (List.mem_append_right _ (List.mem_append_right _ (List.mem_append_right _ (List.mem_append_right _ (List.mem_append_right _ (List.mem_append_right _ (List.mem_append_right _ (List.mem_append_right _ (List.mem_append_right _ (List.mem_append_right _ (List.mem_append_right _ (List.mem_append_right _ (List.mem_append_right _ (List.mem_append_right _ (List.mem_append_right _ (List.mem_append_right _ (List.mem_append_right _ (List.mem_append_right _ (List.mem_append_right _ (List.mem_append_right _ (List.mem_append_right _ (List.mem_append_right _ (List.mem_append_right _ (List.mem_append_right _ (List.mem_append_right _ (List.mem_append_right _ (List.mem_append_right _ (List.mem_append_right _ (List.mem_append_right _ (List.mem_append_right _ (List.mem_append_right _ (List.mem_append_right _ (List.mem_append_left _ h)))))))))))))))))))))))))))))))))))))) (by decide +kernel)
theorem xgL2 : GoodIn wsL_law ((vx_atS RX3 62 "java/lang/IllegalStateException" ["java/lang/RuntimeException", "java/lang/Exception"]).filter goodWord) := goodIn_sub (fun _ h => (List.mem_append_right _ (List.mem_append_right _ (List.mem_append_right _ (List.mem_append_right _ (List.mem_append_right _ (List.mem_append_right _ (List.mem_append_right _ (List.mem_append_right _ (List.mem_append_right _ (List.mem_append_right _ (List.mem_append_right _ (List.mem_append_right _ (List.mem_append_right _ (List.mem_append_right _ (List.mem_append_right _ (List.mem_append_right _ (List.mem_append_right _ (List.mem_append_right _ (List.mem_append_right _ (List.mem_append_right _ (List.mem_append_right _ (List.mem_append_right _ (List.mem_append_right _ (List.mem_append_right _ (List.mem_append_right _ (List.mem_append_right _ (List.mem_append_right _ (List.mem_append_right _ (List.mem_append_right _ (List.mem_append_right _ (List.mem_append_right _ (List.mem_append_right _ (List.mem_append_right _ (List.mem_append_right _ (List.mem_append_right _ (List.mem_append_right _ (List.mem_append_right _ (List.mem_append_left _ h))))))))))))))))))))))))))))))))))))))) (by decide +kernel)
theorem xgL3 : GoodIn wsL_law ((vx_atS RX3 184 "java/lang/IndexOutOfBoundsException" ["java/lang/RuntimeException", "java/lang/Exception"]).filter goodWord) := goodIn_sub (fun _ h => (List.mem_append_right _ (List.mem_append_right _ (List.mem_append_right _ (List.mem_append_right _ (List.mem_append_right _ (List.mem_append_right _ (List.mem_append_right _ (List.mem_append_right _ (List.mem_append_right _ (List.mem_append_right _ (List.mem_append_right _ (List.mem_append_right _ (List.mem_append_right _ (List.mem_append_right _ (List.mem_append_right _ (List.mem_append_right _ (List.mem_append_right _ (List.mem_append_right _ (List.mem_append_right _ (List.mem_append_right _ (List.mem_append_right _ (List.mem_append_right _ (List.mem_append_right _ (List.mem_append_right _ (List.mem_append_right _ (List.mem_append_right _ (List.mem_append_right _ (List.mem_append_right _ (List.mem_append_right _ (List.mem_append_right _ (List.mem_append_right _ (List.mem_append_right _ (List.mem_append_right _ (List.mem_append_right _ (List.mem_append_right _ (List.mem_append_right _ (List.mem_append_right _ (List.mem_append_right _ (List.mem_append_left _ h)))))))))))))))))))))))))))))))))))))))) (by decide +kernel)
theorem xgL4 : GoodIn wsL_law ((vx_atS RX3 128 "java/lang/UnsupportedOperationException" ["java/lang/RuntimeException", "java/lang/Exception"]).filter goodWord) := goodIn_sub (fun _ h => (List.mem_append_right _ (List.mem_append_right _ (List.mem_append_right _ (List.mem_append_right _ (List.mem_append_right _ (List.mem_append_right _ (List.mem_append_right _ (List.mem_append_right _ (List.mem_append_right _ (List.mem_append_right _ (List.mem_append_right _ (List.mem_append_right _ (List.mem_append_right _ (List.mem_append_right _ (List.mem_append_right _ (List.mem_append_right _ (List.mem_append_right _ (List.mem_append_right _ (List.mem_append_right _ (List.mem_append_right _ (List.mem_append_right _ (List.mem_append_right _ (List.mem_append_right _ (List.mem_append_right _ (List.mem_append_right _ (List.mem_append_right _ (List.mem_append_right _ (List.mem_append_right _ (List.mem_append_right _ (List.mem_append_right _ (List.mem_append_right _ (List.mem_append_right _ (List.mem_append_right _ (List.mem_append_right _ (List.mem_append_right _ (List.mem_append_right _ (List.mem_append_right _ (List.mem_append_right _ (List.mem_append_right _ (List.mem_append_left _ h))))))))))))))))))))))))))))))))))))))))) (by decide +kernel)
theorem xgL5 : GoodIn wsL_law ((vx_atS RX3 242 "java/lang/ArithmeticException" ["java/lang/RuntimeException", "java/lang/Exception"]).filter goodWord) := goodIn_sub (fun _ h => (List.mem_append_right _ (List.mem_append_right _ (List.mem_append_right _ (List.mem_append_right _ (List.mem_append_right _ (List.mem_append_right _ (List.mem_append_right _ (List.mem_append_right _ (List.mem_append_right _ (List.mem_append_right _ (List.mem_append_right _ (List.mem_append_right _ (List.mem_append_right _ (List.mem_append_right _ (List.mem_append_right _ (List.mem_append_right _ (List.mem_append_right _ (List.mem_append_right _ (List.mem_append_right _ (List.mem_append_right _ (List.mem_append_right _ (List.mem_append_right _ (List.mem_append_right _ (List.mem_append_right _ (List.mem_append_right _ (List.mem_append_right _ (List.mem_append_right _ (List.mem_append_right _ (List.mem_append_right _ (List.mem_append_right _ (List.mem_append_right _ (List.mem_append_right _ (List.mem_append_right _ (List.mem_append_right _ (List.mem_append_right _ (List.mem_append_right _ (List.mem_append_right _ (List.mem_append_right _ (List.mem_append_right _ (List.mem_append_right _ h))))))))))))))))))))))))))))))))))))))))) (by decide +kernel)
set_option maxRecDepth 20000 in
theorem ggL_law_X3_init : GoodIn wsL_law wsX3_init := goodIn_g _ [11, 1, 1, 1, 1, 1, 1, 1, 1, 1, 1, 1, 1, 1, 1, 1, 1, 1, 1, 1, 1, 1, 1, 1, 1, 1, 1, 1, 1, 1, 1, 1, 1, 1, 1, 1, 1, 1, 1, 1, 1, 1, 1, 1, 1, 1, 1, 1, 1, 1, 1, 1, 1, 1, 1, 1, 1, 643, 1, 1, 1, 1, 1, 1, 1, 23, 1, 1, 1, 1, 1, 1, 1, 1, 1, 1, 1, 1, 1, 1, 1, 1, 1, 1, 1, 1, 1, 1, 1, 1] rfl (by decide +kernel)
set_option maxRecDepth 20000 in
theorem gL_law_X3_init : GoodIn wsL_law (wsX3_init) := ggL_law_X3_init
set_option maxRecDepth 20000 in
theorem ggL_law_X4_init : GoodIn wsL_law wsX4_init := goodIn_g _ [70, 1, 0, 13, 1, 58, 0, 35, 38, 1, 1, 1, 1, 1, 1, 1, 1, 1, 1, 1, 1, 1, 1, 1, 1, 1, 628, 1, 1, 1, 1, 1, 1, 1, 1, 1, 1, 1, 1, 1, 1, 1, 1, 1, 1, 1, 1, 1] rfl (by decide +kernel)
set_option maxRecDepth 20000 in
theorem gL_law_X4_init : GoodIn wsL_law (wsX4_init) := ggL_law_X4_init
set_option maxRecDepth 20000 in
theorem ggL_law_L_addBoard : GoodIn wsL_law wsL_addBoard := goodIn_ca (goodIn_ca (goodIn_ca (goodIn_g _ [94, 1, 1, 1, 1, 0, 3, 96, 1, 1, 1, 1, 0, 17, 0, 16, 88, 1, 1, 1, 1, 1, 0, 29, 81, 0, 43, 1, 666, 1, 1, 1, 1, 1, 1, 1, 27, 1, 1, 1, 1, 1, 1, 1, 1, 1, 1, 1] rfl (by decide +kernel)) xgL0) xgL1) xgL2
set_option maxRecDepth 20000 in
theorem gL_law_L_addBoard : GoodIn wsL_law (va_wsS RL 109 yL_addBoard wsL_addBoard) := goodIn_app (goodIn_g _ [91, 1, 1] rfl (by decide +kernel)) ggL_law_L_addBoard
set_option maxRecDepth 20000 in
theorem ggL_law_X4_addBoard : GoodIn wsL_law wsX4_addBoard := goodIn_ca (goodIn_g _ [114, 1, 1, 0, 73, 1, 1, 42, 1, 0, 6, 113, 1, 1, 1, 1, 1, 1, 1, 592, 1, 1, 1, 1, 1, 1, 1, 1, 1, 1, 1, 1, 1, 1, 1, 1, 1, 1, 1, 1, 1] rfl (by decide +kernel)) xgL0
set_option maxRecDepth 20000 in
theorem gL_law_X4_addBoard : GoodIn wsL_law (wsV RL 114 RX4 yX4_addBoard wsX4_addBoard) := goodIn_app (goodIn_g _ [111, 1, 1, 0, 6] rfl (by decide +kernel)) ggL_law_X4_addBoard
set_option maxRecDepth 20000 in
theorem ggL_law_L_setSun : GoodIn wsL_law wsL_setSun := goodIn_ca (goodIn_ca (goodIn_g _ [129, 0, 95, 35, 1, 1, 0, 3, 130, 0, 100, 1, 0, 26, 684, 1, 1, 1, 1, 1, 1, 1] rfl (by decide +kernel)) xgL0) xgL1
set_option maxRecDepth 20000 in
theorem gL_law_L_setSun : GoodIn wsL_law (va_wsS RL 115 yL_setSun wsL_setSun) := goodIn_app (goodIn_g _ [127, 1, 0, 93] rfl (by decide +kernel)) ggL_law_L_setSun
set_option maxRecDepth 20000 in
theorem ggL_law_X4_setSun : GoodIn wsL_law wsX4_setSun := goodIn_g _ [137, 0, 115, 0, 72, 48, 1, 0, 6, 116, 1, 1, 1, 1, 592, 1, 1, 1, 1, 1, 1, 1, 1, 1, 1, 1, 1, 1, 1, 1, 1, 1, 1, 1, 1, 1] rfl (by decide +kernel)
set_option maxRecDepth 20000 in
theorem gL_law_X4_setSun : GoodIn wsL_law (wsV RL 118 RX4 yX4_setSun wsX4_setSun) := goodIn_app (goodIn_g _ [134, 1, 1, 0, 6] rfl (by decide +kernel)) ggL_law_X4_setSun
set_option maxRecDepth 20000 in
theorem ggL_law_L_charge : GoodIn wsL_law wsL_charge := goodIn_ca (goodIn_ca (goodIn_g _ [140, 1, 1, 1, 1, 0, 3, 142, 1, 1, 1, 1, 1, 1, 0, 17, 0, 16, 728, 1, 1, 1, 1, 1, 1, 1, 1, 1, 1, 1, 0, 710, 1, 1, 1, 1, 1, 1, 1] rfl (by decide +kernel)) xgL0) xgL3
set_option maxRecDepth 20000 in
theorem gL_law_L_charge : GoodIn wsL_law (va_wsS RL 119 yL_charge wsL_charge) := goodIn_app (goodIn_g _ [138, 1, 0, 93] rfl (by decide +kernel)) ggL_law_L_charge
set_option maxRecDepth 20000 in
theorem ggL_law_X4_charge : GoodIn wsL_law wsX4_charge := goodIn_ca (goodIn_g _ [155, 0, 115, 0, 74, 82, 1, 1, 0, 6, 153, 0, 116, 4, 1, 1, 1, 1, 1, 1, 592, 1, 1, 1, 1, 1, 1, 1, 1, 1, 1, 1, 1, 1, 1, 1, 1, 1, 1, 1, 1, 1] rfl (by decide +kernel)) xgL0
set_option maxRecDepth 20000 in
theorem gL_law_X4_charge : GoodIn wsL_law (wsV RL 121 RX4 yX4_charge wsX4_charge) := goodIn_app (goodIn_g _ [152, 1, 1, 0, 6] rfl (by decide +kernel)) ggL_law_X4_charge
set_option maxRecDepth 20000 in
theorem ggL_law_X4_thrown : GoodIn wsL_law wsX4_thrown := goodIn_g _ [163, 0, 115, 603, 1, 1, 1, 1, 1, 1, 1, 1, 1, 1, 1, 1, 1, 1, 1, 1, 1, 1, 1, 1, 1] rfl (by decide +kernel)
set_option maxRecDepth 20000 in
theorem gL_law_X4_thrown : GoodIn wsL_law (wsV RL 122 RX4 yX4_thrown wsX4_thrown) := goodIn_app (goodIn_g _ [160, 1, 1, 0, 6] rfl (by decide +kernel)) ggL_law_X4_thrown
set_option maxRecDepth 20000 in
theorem ggL_law_L_cell : GoodIn wsL_law wsL_cell := goodIn_ca (goodIn_ca (goodIn_g _ [166, 0, 141, 26, 1, 1, 0, 3, 167, 0, 146, 1, 1, 1, 1, 1, 0, 17, 0, 16, 155, 1, 1, 1, 1, 1, 568, 1, 1, 1, 1, 1, 1, 1, 1, 1, 1, 1, 0, 710, 1, 1, 1, 1, 1, 1, 1] rfl (by decide +kernel)) xgL0) xgL3
set_option maxRecDepth 20000 in
theorem gL_law_L_cell : GoodIn wsL_law (va_wsS RL 126 yL_cell wsL_cell) := goodIn_app (goodIn_g _ [164, 1, 0, 93] rfl (by decide +kernel)) ggL_law_L_cell
set_option maxRecDepth 20000 in
theorem ggL_law_X4_cell : GoodIn wsL_law wsX4_cell := goodIn_ca (goodIn_g _ [180, 0, 115, 0, 79, 102, 1, 1, 0, 6, 178, 0, 156, 1, 1, 1, 0, 116, 4, 1, 1, 1, 1, 1, 1, 592, 1, 1, 1, 1, 1, 1, 1, 1, 1, 1, 1, 1, 1, 1, 1, 1, 1, 1, 1, 1, 1] rfl (by decide +kernel)) xgL0
set_option maxRecDepth 20000 in
theorem gL_law_X4_cell : GoodIn wsL_law (wsV RL 129 RX4 yX4_cell wsX4_cell) := goodIn_app (goodIn_g _ [177, 1, 1, 0, 6] rfl (by decide +kernel)) ggL_law_X4_cell
set_option maxRecDepth 20000 in
theorem ggL_law_L_wear : GoodIn wsL_law wsL_wear := goodIn_ca (goodIn_ca (goodIn_g _ [187, 0, 141, 47, 1, 1, 0, 3, 188, 0, 146, 1, 1, 1, 1, 1, 0, 17, 0, 16, 155, 1, 1, 19, 1, 1, 0, 29, 166, 0, 49, 661, 1, 1, 1, 1, 1, 1, 1, 27, 1, 1, 1, 1, 1, 1, 1, 1, 1, 1, 1] rfl (by decide +kernel)) xgL0) xgL3
set_option maxRecDepth 20000 in
theorem gL_law_L_wear : GoodIn wsL_law (va_wsS RL 130 yL_wear wsL_wear) := goodIn_app (goodIn_g _ [185, 1, 0, 93] rfl (by decide +kernel)) ggL_law_L_wear
set_option maxRecDepth 20000 in
theorem ggL_law_X4_wear : GoodIn wsL_law wsX4_wear := goodIn_ca (goodIn_g _ [199, 0, 115, 0, 80, 101, 1, 1, 0, 6, 178, 0, 156, 1, 1, 1, 0, 116, 4, 1, 1, 1, 1, 1, 1, 592, 1, 1, 1, 1, 1, 1, 1, 1, 1, 1, 1, 1, 1, 1, 1, 1, 1, 1, 1, 1, 1] rfl (by decide +kernel)) xgL0
set_option maxRecDepth 20000 in
theorem gL_law_X4_wear : GoodIn wsL_law (wsV RL 132 RX4 yX4_wear wsX4_wear) := goodIn_app (goodIn_g _ [196, 1, 1, 0, 6] rfl (by decide +kernel)) ggL_law_X4_wear
set_option maxRecDepth 20000 in
theorem ggL_law_L_shows : GoodIn wsL_law wsL_shows := goodIn_ca (goodIn_ca (goodIn_g _ [202, 0, 141, 62, 1, 1, 0, 3, 203, 0, 146, 1, 1, 1, 1, 1, 0, 17, 0, 16, 728, 1, 1, 1, 1, 1, 1, 1, 1, 1, 1, 1, 1, 1, 1, 1, 1, 1, 1, 1, 1, 0, 710, 1, 1, 1, 1, 1, 1, 1] rfl (by decide +kernel)) xgL0) xgL3
set_option maxRecDepth 20000 in
theorem gL_law_L_shows : GoodIn wsL_law (va_wsS RL 133 yL_shows wsL_shows) := goodIn_app (goodIn_g _ [200, 1, 0, 93] rfl (by decide +kernel)) ggL_law_L_shows
set_option maxRecDepth 20000 in
theorem ggL_law_X4_shows : GoodIn wsL_law wsX4_shows := goodIn_ca (goodIn_g _ [210, 0, 115, 0, 75, 81, 1, 1, 0, 6, 153, 0, 116, 4, 1, 1, 1, 1, 1, 1, 592, 1, 1, 1, 1, 1, 1, 1, 1, 1, 1, 1, 1, 1, 1, 1, 1, 1, 1, 1, 1, 1] rfl (by decide +kernel)) xgL0
set_option maxRecDepth 20000 in
theorem gL_law_X4_shows : GoodIn wsL_law (wsV RL 135 RX4 yX4_shows wsX4_shows) := goodIn_app (goodIn_g _ [207, 1, 1, 0, 6] rfl (by decide +kernel)) ggL_law_X4_shows
set_option maxRecDepth 20000 in
theorem ggL_law_L_shift : GoodIn wsL_law wsL_shift := goodIn_ca (goodIn_ca (goodIn_g _ [213, 0, 141, 73, 1, 1, 0, 3, 214, 0, 146, 1, 1, 1, 1, 1, 0, 17, 0, 16, 728, 1, 1, 1, 1, 1, 1, 1, 1, 1, 1, 1, 0, 710, 1, 1, 1, 1, 1, 1, 1] rfl (by decide +kernel)) xgL0) xgL3
set_option maxRecDepth 20000 in
theorem gL_law_L_shift : GoodIn wsL_law (va_wsS RL 136 yL_shift wsL_shift) := goodIn_app (goodIn_g _ [211, 1, 0, 93] rfl (by decide +kernel)) ggL_law_L_shift
set_option maxRecDepth 20000 in
theorem ggL_law_X4_shift : GoodIn wsL_law wsX4_shift := goodIn_ca (goodIn_g _ [221, 0, 115, 0, 76, 80, 1, 1, 0, 6, 153, 0, 116, 4, 1, 1, 1, 1, 1, 1, 592, 1, 1, 1, 1, 1, 1, 1, 1, 1, 1, 1, 1, 1, 1, 1, 1, 1, 1, 1, 1, 1] rfl (by decide +kernel)) xgL0
set_option maxRecDepth 20000 in
theorem gL_law_X4_shift : GoodIn wsL_law (wsV RL 138 RX4 yX4_shift wsX4_shift) := goodIn_app (goodIn_g _ [218, 1, 1, 0, 6] rfl (by decide +kernel)) ggL_law_X4_shift
set_option maxRecDepth 20000 in
theorem ggL_law_L_sleeps : GoodIn wsL_law wsL_sleeps := goodIn_ca (goodIn_ca (goodIn_g _ [224, 0, 141, 84, 1, 1, 0, 3, 225, 0, 146, 1, 1, 1, 1, 1, 0, 17, 0, 16, 728, 1, 1, 1, 1, 1, 1, 1, 1, 1, 1, 1, 0, 710, 1, 1, 1, 1, 1, 1, 1] rfl (by decide +kernel)) xgL0) xgL3
set_option maxRecDepth 20000 in
theorem gL_law_L_sleeps : GoodIn wsL_law (va_wsS RL 139 yL_sleeps wsL_sleeps) := goodIn_app (goodIn_g _ [222, 1, 0, 93] rfl (by decide +kernel)) ggL_law_L_sleeps
set_option maxRecDepth 20000 in
theorem ggL_law_X4_sleeps : GoodIn wsL_law wsX4_sleeps := goodIn_ca (goodIn_g _ [232, 0, 115, 0, 78, 78, 1, 1, 0, 6, 153, 0, 116, 4, 1, 1, 1, 1, 1, 1, 592, 1, 1, 1, 1, 1, 1, 1, 1, 1, 1, 1, 1, 1, 1, 1, 1, 1, 1, 1, 1, 1] rfl (by decide +kernel)) xgL0
set_option maxRecDepth 20000 in
theorem gL_law_X4_sleeps : GoodIn wsL_law (wsV RL 141 RX4 yX4_sleeps wsX4_sleeps) := goodIn_app (goodIn_g _ [229, 1, 1, 0, 6] rfl (by decide +kernel)) ggL_law_X4_sleeps
set_option maxRecDepth 20000 in
theorem ggL_law_L_post : GoodIn wsL_law wsL_post := goodIn_ca (goodIn_ca (goodIn_ca (goodIn_g _ [235, 0, 95, 141, 1, 1, 0, 3, 236, 0, 100, 1, 139, 1, 1, 1, 0, 102, 1, 0, 21, 0, 19, 1, 224, 1, 1, 0, 31, 216, 0, 60, 1, 1, 1, 693, 1, 1, 1, 1, 1, 1, 1, 1, 0, 710, 1, 1, 1, 1, 1, 1, 1] rfl (by decide +kernel)) xgL0) xgL1) xgL2
set_option maxRecDepth 20000 in
theorem gL_law_L_post : GoodIn wsL_law (va_wsS RL 142 yL_post wsL_post) := goodIn_app (goodIn_g _ [233, 1, 0, 93] rfl (by decide +kernel)) ggL_law_L_post
set_option maxRecDepth 20000 in
theorem ggL_law_X4_post : GoodIn wsL_law wsX4_post := goodIn_ca (goodIn_g _ [251, 0, 115, 137, 0, 120, 1, 0, 6, 116, 1, 1, 1, 1, 127, 1, 1, 1, 0, 81, 1, 1, 1, 634, 1, 1, 1, 1, 1, 1, 1, 1, 1, 1, 1, 1, 1, 1, 1, 1, 1, 1, 1, 1, 1] rfl (by decide +kernel)) xgL0
set_option maxRecDepth 20000 in
theorem gL_law_X4_post : GoodIn wsL_law (wsV RL 145 RX4 yX4_post wsX4_post) := goodIn_app (goodIn_g _ [248, 1, 1, 0, 6] rfl (by decide +kernel)) ggL_law_X4_post
set_option maxRecDepth 20000 in
theorem ggL_law_L_queue : GoodIn wsL_law wsL_queue := goodIn_ca (goodIn_ca (goodIn_ca (goodIn_ca (goodIn_g _ [259, 0, 141, 119, 1, 1, 0, 3, 260, 1, 1, 0, 27, 239, 1, 1, 1, 0, 150, 1, 0, 21, 0, 19, 85, 1, 1, 0, 100, 1, 169, 1, 1, 0, 31, 242, 0, 66, 109, 1, 98, 1, 1, 1, 0, 63, 215, 1, 1, 1, 475, 1, 1, 1, 1, 1, 1, 1, 1, 0, 710, 1, 1, 1, 1, 1, 1, 1] rfl (by decide +kernel)) xgL0) xgL4) xgL3) xgL1
set_option maxRecDepth 20000 in
theorem gL_law_L_queue : GoodIn wsL_law (va_wsS RL 146 yL_queue wsL_queue) := goodIn_app (goodIn_g _ [257, 1, 0, 93] rfl (by decide +kernel)) ggL_law_L_queue
set_option maxRecDepth 20000 in
theorem ggL_law_X4_queue : GoodIn wsL_law wsX4_queue := goodIn_ca (goodIn_g _ [285, 0, 115, 0, 85, 1, 1, 199, 1, 1, 0, 6, 283, 0, 252, 0, 120, 1, 1, 1, 1, 1, 1, 0, 117, 1, 1, 599, 1, 1, 1, 1, 1, 1, 1, 1, 1, 1, 1, 1, 1, 1, 1, 1, 1, 1, 1, 1, 1] rfl (by decide +kernel)) xgL0
set_option maxRecDepth 20000 in
theorem gL_law_X4_queue : GoodIn wsL_law (wsV RL 148 RX4 yX4_queue wsX4_queue) := goodIn_app (goodIn_g _ [282, 1, 1, 0, 6] rfl (by decide +kernel)) ggL_law_X4_queue
set_option maxRecDepth 20000 in
theorem ggL_law_L_takeBack : GoodIn wsL_law wsL_takeBack := goodIn_ca (goodIn_ca (goodIn_ca (goodIn_ca (goodIn_g _ [292, 0, 141, 152, 1, 1, 0, 3, 293, 0, 100, 1, 163, 1, 0, 27, 239, 1, 1, 1, 0, 150, 1, 0, 21, 0, 19, 278, 1, 1, 1, 0, 17, 0, 16, 694, 1, 1, 1, 1, 1, 1, 1, 39, 1, 1, 1, 1, 1, 1, 1, 1, 0, 744, 1, 1, 1, 1, 1, 1, 1, 1, 1, 1, 1] rfl (by decide +kernel)) xgL0) xgL1) xgL4) xgL3
set_option maxRecDepth 20000 in
theorem gL_law_L_takeBack : GoodIn wsL_law (va_wsS RL 149 yL_takeBack wsL_takeBack) := goodIn_app (goodIn_g _ [290, 1, 0, 93] rfl (by decide +kernel)) ggL_law_L_takeBack
set_option maxRecDepth 20000 in
theorem ggL_law_X4_takeBack : GoodIn wsL_law wsX4_takeBack := goodIn_ca (goodIn_g _ [304, 0, 115, 190, 0, 84, 2, 0, 85, 31, 0, 75, 211, 1, 1, 0, 6, 283, 0, 252, 0, 120, 1, 1, 1, 1, 1, 1, 592, 1, 1, 1, 1, 1, 1, 1, 1, 1, 1, 1, 1, 1, 1, 1, 1, 1, 1, 1, 1, 1] rfl (by decide +kernel)) xgL0
set_option maxRecDepth 20000 in
theorem gL_law_X4_takeBack : GoodIn wsL_law (wsV RL 151 RX4 yX4_takeBack wsX4_takeBack) := goodIn_app (goodIn_g _ [301, 1, 1, 0, 6] rfl (by decide +kernel)) ggL_law_X4_takeBack
set_option maxRecDepth 20000 in
theorem ggL_law_L_mend : GoodIn wsL_law wsL_mend := goodIn_ca (goodIn_ca (goodIn_ca (goodIn_ca (goodIn_ca (goodIn_g _ [308, 0, 141, 168, 1, 1, 0, 3, 309, 0, 100, 1, 163, 1, 0, 27, 286, 1, 1, 1, 1, 1, 1, 0, 266, 1, 1, 1, 0, 150, 1, 0, 21, 0, 19, 301, 0, 275, 1, 0, 31, 246, 0, 63, 177, 1, 1, 1, 0, 102, 1, 0, 20, 224, 1, 1, 1, 0, 60, 1, 1, 259, 1, 1, 1, 0, 270, 1, 1, 1, 0, 66, 109, 1, 98, 51, 1, 1, 1, 0, 17, 0, 16, 262, 1, 1, 1, 475, 1, 1, 1, 1, 1, 1, 1, 1, 0, 710, 1, 1, 1, 1, 1, 1, 1, 27, 1, 1, 1, 1, 1, 1, 1, 1, 1, 1, 1] rfl (by decide +kernel)) xgL0) xgL1) xgL4) xgL3) xgL2
set_option maxRecDepth 20000 in
theorem gL_law_L_mend : GoodIn wsL_law (va_wsS RL 152 yL_mend wsL_mend) := goodIn_app (goodIn_g _ [306, 1, 0, 93] rfl (by decide +kernel)) ggL_law_L_mend
set_option maxRecDepth 20000 in
theorem ggL_law_X4_mend : GoodIn wsL_law wsX4_mend := goodIn_ca (goodIn_g _ [332, 0, 115, 0, 82, 4, 219, 0, 84, 168, 0, 81, 2, 4, 199, 1, 1, 0, 6, 283, 0, 120, 1, 1, 1, 1, 1, 1, 207, 1, 1, 1, 1, 1, 0, 253, 1, 1, 1, 83, 1, 1, 1, 0, 116, 0, 73, 15, 630, 1, 1, 1, 1, 1, 1, 1, 1, 1, 1, 1, 1, 1, 1, 1, 1, 1, 1, 1, 1, 1] rfl (by decide +kernel)) xgL0
set_option maxRecDepth 20000 in
theorem gL_law_X4_mend : GoodIn wsL_law (wsV RL 154 RX4 yX4_mend wsX4_mend) := goodIn_app (goodIn_g _ [329, 1, 1, 0, 6] rfl (by decide +kernel)) ggL_law_X4_mend
set_option maxRecDepth 20000 in
theorem ggL_law_L_deny : GoodIn wsL_law wsL_deny := goodIn_ca (goodIn_ca (goodIn_ca (goodIn_g _ [345, 0, 95, 251, 1, 1, 0, 3, 346, 0, 100, 1, 0, 27, 77, 1, 1, 134, 1, 1, 1, 0, 102, 1, 0, 21, 0, 19, 1, 224, 1, 1, 0, 31, 216, 0, 60, 1, 1, 1, 215, 1, 1, 1, 0, 66, 644, 1, 1, 1, 1, 1, 1, 1, 39, 1, 1, 1, 1, 1, 1, 1, 1] rfl (by decide +kernel)) xgL0) xgL1) xgL2
set_option maxRecDepth 20000 in
theorem gL_law_L_deny : GoodIn wsL_law (va_wsS RL 155 yL_deny wsL_deny) := goodIn_app (goodIn_g _ [343, 1, 0, 93] rfl (by decide +kernel)) ggL_law_L_deny
set_option maxRecDepth 20000 in
theorem ggL_law_X4_deny : GoodIn wsL_law wsX4_deny := goodIn_ca (goodIn_g _ [353, 0, 115, 190, 0, 252, 0, 87, 30, 1, 0, 6, 113, 1, 1, 1, 1, 1, 1, 1, 127, 1, 1, 1, 0, 81, 1, 1, 1, 634, 1, 1, 1, 1, 1, 1, 1, 1, 1, 1, 1, 1, 1, 1, 1, 1, 1, 1, 1, 1, 1] rfl (by decide +kernel)) xgL0
set_option maxRecDepth 20000 in
theorem gL_law_X4_deny : GoodIn wsL_law (wsV RL 157 RX4 yX4_deny wsX4_deny) := goodIn_app (goodIn_g _ [350, 1, 1, 0, 6] rfl (by decide +kernel)) ggL_law_X4_deny
set_option maxRecDepth 20000 in
theorem ggL_law_L_queued : GoodIn wsL_law wsL_queued := goodIn_ca (goodIn_ca (goodIn_g _ [356, 0, 95, 262, 1, 1, 0, 3, 357, 0, 21, 0, 19, 8, 77, 1, 1, 0, 100, 1, 169, 1, 1, 0, 31, 242, 0, 66, 109, 1, 98, 1, 1, 1, 0, 63, 647, 1, 1, 1, 1, 1, 1, 1, 39, 1, 1, 1, 1, 1, 1, 1, 1] rfl (by decide +kernel)) xgL0) xgL1
set_option maxRecDepth 20000 in
theorem gL_law_L_queued : GoodIn wsL_law (va_wsS RL 158 yL_queued wsL_queued) := goodIn_app (goodIn_g _ [354, 1, 0, 93] rfl (by decide +kernel)) ggL_law_L_queued
set_option maxRecDepth 20000 in
theorem ggL_law_X4_queued : GoodIn wsL_law wsX4_queued := goodIn_ca (goodIn_g _ [364, 0, 115, 2, 1, 0, 6, 113, 1, 1, 1, 1, 1, 1, 1, 239, 1, 1, 1, 0, 252, 117, 1, 1, 1, 0, 87, 218, 0, 84, 634, 1, 1, 1, 1, 1, 1, 1, 1, 1, 1, 1, 1, 1, 1, 1, 1, 1, 1, 1, 1, 1] rfl (by decide +kernel)) xgL0
set_option maxRecDepth 20000 in
theorem gL_law_X4_queued : GoodIn wsL_law (wsV RL 160 RX4 yX4_queued wsX4_queued) := goodIn_app (goodIn_g _ [361, 1, 1, 0, 6] rfl (by decide +kernel)) ggL_law_X4_queued
set_option maxRecDepth 20000 in
theorem ggL_law_L_queuedAt : GoodIn wsL_law wsL_queuedAt := goodIn_ca (goodIn_ca (goodIn_ca (goodIn_g _ [375, 0, 95, 281, 1, 1, 0, 3, 376, 0, 150, 1, 0, 21, 0, 20, 7, 77, 1, 1, 0, 100, 1, 169, 1, 1, 0, 31, 242, 0, 66, 109, 1, 98, 1, 1, 1, 0, 63, 647, 1, 1, 1, 1, 1, 1, 1, 39, 1, 1, 1, 1, 1, 1, 1, 1] rfl (by decide +kernel)) xgL0) xgL3) xgL1
set_option maxRecDepth 20000 in
theorem gL_law_L_queuedAt : GoodIn wsL_law (va_wsS RL 161 yL_queuedAt wsL_queuedAt) := goodIn_app (goodIn_g _ [373, 1, 0, 93] rfl (by decide +kernel)) ggL_law_L_queuedAt
