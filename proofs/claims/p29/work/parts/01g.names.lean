theorem xgL0 : GoodIn wsL_law ((vx_atM "java/lang/ArrayIndexOutOfBoundsException" ["java/lang/IndexOutOfBoundsException", "java/lang/RuntimeException", "java/lang/Exception"]).filter goodWord) := goodIn_sub (fun _ h => (List.mem_append_right _ (List.mem_append_right _ (List.mem_append_right _ (List.mem_append_right _ (List.mem_append_right _ (List.mem_append_right _ (List.mem_append_right _ (List.mem_append_right _ (List.mem_append_right _ (List.mem_append_right _ (List.mem_append_right _ (List.mem_append_right _ (List.mem_append_right _ (List.mem_append_right _ (List.mem_append_right _ (List.mem_append_right _ (List.mem_append_right _ (List.mem_append_right _ (List.mem_append_right _ (List.mem_append_right _ (List.mem_append_right _ (List.mem_append_right _ (List.mem_append_right _ (List.mem_append_right _ (List.mem_append_right _ (List.mem_append_right _ (List.mem_append_right _ (List.mem_append_right _ (List.mem_append_right _ (List.mem_append_right _ (List.mem_append_right _ (List.mem_append_right _ (List.mem_append_right _ (List.mem_append_right _ (List.mem_append_right _ (List.mem_append_left _ h))))))))))))))))))))))))))))))))))))) (by decide +kernel)
theorem xgL1 : GoodIn wsL_law ((vx_atS RX3 55 "java/lang/IllegalArgumentException" ["java/lang/RuntimeException", "java/lang/Exception"]).filter goodWord) := goodIn_sub (fun _ h => (List.mem_append_right _ (List.mem_append_right _ (List.mem_append_right _ (List.mem_append_right _ (List.mem_append_right _ (List.mem_append_right _ (List.mem_append_right _ (List.mem_append_right _ (List.mem_append_right _ (List.mem_append_right _ (List.mem_append_right _ (List.mem_append_right _ (List.mem_append_right _ (List.mem_append_right _ (List.mem_append_right _ (List.mem_append_right _ (List.mem_append_right _ (List.mem_append_right _ (List.mem_append_right _ (List.mem_append_right _ (List.mem_append_right _ (List.mem_append_right _ (List.mem_append_right _ (List.mem_append_right _ (List.mem_append_right _ (List.mem_append_right _ (List.mem_append_right _ (List.mem_append_right _ (List.mem_append_right _ (List.mem_append_right _ (List.mem_append_right _ (List.mem_append_right _ (List.mem_append_right _ (List.mem_append_right _ (List.mem_append_right _ (List.mem_append_right _ (List.mem_append_left _ h)))))))))))))))))))))))))))))))))))))) (by decide +kernel)
theorem xgL2 : GoodIn wsL_law ((vx_atS RX3 62 "java/lang/IllegalStateException" ["java/lang/RuntimeException", "java/lang/Exception"]).filter goodWord) := goodIn_sub (fun _ h => (List.mem_append_right _ (List.mem_append_right _ (List.mem_append_right _ (List.mem_append_right _ (List.mem_append_right _ (List.mem_append_right _ (List.mem_append_right _ (List.mem_append_right _ (List.mem_append_right _ (List.mem_append_right _ (List.mem_append_right _ (List.mem_append_right _ (List.mem_append_right _ (List.mem_append_right _ (List.mem_append_right _ (List.mem_append_right _ (List.mem_append_right _ (List.mem_append_right _ (List.mem_append_right _ (List.mem_append_right _ (List.mem_append_right _ (List.mem_append_right _ (List.mem_append_right _ (List.mem_append_right _ (List.mem_append_right _ (List.mem_append_right _ (List.mem_append_right _ (List.mem_append_right _ (List.mem_append_right _ (List.mem_append_right _ (List.mem_append_right _ (List.mem_append_right _ (List.mem_append_right _ (List.mem_append_right _ (List.mem_append_right _ (List.mem_append_right _ (List.mem_append_right _ (List.mem_append_left _ h))))))))))))))))))))))))))))))))))))))) (by decide +kernel)
theorem xgL3 : GoodIn wsL_law ((vx_atS RX3 184 "java/lang/IndexOutOfBoundsException" ["java/lang/RuntimeException", "java/lang/Exception"]).filter goodWord) := goodIn_sub (fun _ h => (List.mem_append_right _ (List.mem_append_right _ (List.mem_append_right _ (List.mem_append_right _ (List.mem_append_right _ (List.mem_append_right _ (List.mem_append_right _ (List.mem_append_right _ (List.mem_append_right _ (List.mem_append_right _ (List.mem_append_right _ (List.mem_append_right _ (List.mem_append_right _ (List.mem_append_right _ (List.mem_append_right _ (List.mem_append_right _ (List.mem_append_right _ (List.mem_append_right _ (List.mem_append_right _ (List.mem_append_right _ (List.mem_append_right _ (List.mem_append_right _ (List.mem_append_right _ (List.mem_append_right _ (List.mem_append_right _ (List.mem_append_right _ (List.mem_append_right _ (List.mem_append_right _ (List.mem_append_right _ (List.mem_append_right _ (List.mem_append_right _ (List.mem_append_right _ (List.mem_append_right _ (List.mem_append_right _ (List.mem_append_right _ (List.mem_append_right _ (List.mem_append_right _ (List.mem_append_right _ (List.mem_append_left _ h)))))))))))))))))))))))))))))))))))))))) (by decide +kernel)
theorem xgL4 : GoodIn wsL_law ((vx_atS RX3 128 "java/lang/UnsupportedOperationException" ["java/lang/RuntimeException", "java/lang/Exception"]).filter goodWord) := goodIn_sub (fun _ h => (List.mem_append_right _ (List.mem_append_right _ (List.mem_append_right _ (List.mem_append_right _ (List.mem_append_right _ (List.mem_append_right _ (List.mem_append_right _ (List.mem_append_right _ (List.mem_append_right _ (List.mem_append_right _ (List.mem_append_right _ (List.mem_append_right _ (List.mem_append_right _ (List.mem_append_right _ (List.mem_append_right _ (List.mem_append_right _ (List.mem_append_right _ (List.mem_append_right _ (List.mem_append_right _ (List.mem_append_right _ (List.mem_append_right _ (List.mem_append_right _ (List.mem_append_right _ (List.mem_append_right _ (List.mem_append_right _ (List.mem_append_right _ (List.mem_append_right _ (List.mem_append_right _ (List.mem_append_right _ (List.mem_append_right _ (List.mem_append_right _ (List.mem_append_right _ (List.mem_append_right _ (List.mem_append_right _ (List.mem_append_right _ (List.mem_append_right _ (List.mem_append_right _ (List.mem_append_right _ (List.mem_append_right _ (List.mem_append_left _ h))))))))))))))))))))))))))))))))))))))))) (by decide +kernel)
theorem xgL5 : GoodIn wsL_law ((vx_atS RX3 242 "java/lang/ArithmeticException" ["java/lang/RuntimeException", "java/lang/Exception"]).filter goodWord) := goodIn_sub (fun _ h => (List.mem_append_right _ (List.mem_append_right _ (List.mem_append_right _ (List.mem_append_right _ (List.mem_append_right _ (List.mem_append_right _ (List.mem_append_right _ (List.mem_append_right _ (List.mem_append_right _ (List.mem_append_right _ (List.mem_append_right _ (List.mem_append_right _ (List.mem_append_right _ (List.mem_append_right _ (List.mem_append_right _ (List.mem_append_right _ (List.mem_append_right _ (List.mem_append_right _ (List.mem_append_right _ (List.mem_append_right _ (List.mem_append_right _ (List.mem_append_right _ (List.mem_append_right _ (List.mem_append_right _ (List.mem_append_right _ (List.mem_append_right _ (List.mem_append_right _ (List.mem_append_right _ (List.mem_append_right _ (List.mem_append_right _ (List.mem_append_right _ (List.mem_append_right _ (List.mem_append_right _ (List.mem_append_right _ (List.mem_append_right _ (List.mem_append_right _ (List.mem_append_right _ (List.mem_append_right _ (List.mem_append_right _ (List.mem_append_right _ h))))))))))))))))))))))))))))))))))))))))) (by decide +kernel)
set_option maxRecDepth 20000 in
theorem ggL_law_X3_init : GoodIn wsL_law wsX3_init := goodIn_g _ [11, 1, 1, 1, 1, 1, 1, 1, 1, 1, 1, 1, 1, 1, 1, 1, 1, 1, 1, 1, 1, 1, 1, 1, 1, 1, 1, 1, 1, 1, 1, 1, 1, 1, 1, 1, 1, 1, 1, 1, 1, 1, 1, 1, 1, 1, 1, 1, 1, 1, 1, 1, 1, 1, 1, 1, 1, 643, 1, 1, 1, 1, 1, 1, 1, 23, 1, 1, 1, 1, 1, 1, 1, 1, 1, 1, 1, 1, 1, 1, 1, 1, 1, 1, 1, 1, 1, 1, 1, 1] rfl (by decide +kernel)
set_option maxRecDepth 20000 in
theorem gL_law_X3_init : GoodIn wsL_law (wsX3_init) := ggL_law_X3_init
set_option maxRecDepth 20000 in
theorem ggL_law_X4_init : GoodIn wsL_law wsX4_init := goodIn_g _ [70, 1, 0, 13, 1, 58, 0, 35, 38, 1, 1, 1, 1, 1, 1, 1, 1, 1, 1, 1, 1, 1, 1, 1, 1, 1, 628, 1, 1, 1, 1, 1, 1, 1, 1, 1, 1, 1, 1, 1, 1, 1, 1, 1, 1, 1, 1, 1] rfl (by decide +kernel)
set_option maxRecDepth 20000 in
theorem gL_law_X4_init : GoodIn wsL_law (wsX4_init) := ggL_law_X4_init
set_option maxRecDepth 20000 in
theorem ggL_law_L_addBoard : GoodIn wsL_law wsL_addBoard := goodIn_ca (goodIn_ca (goodIn_ca (goodIn_g _ [94, 1, 1, 1, 1, 0, 3, 96, 1, 1, 1, 1, 0, 17, 0, 16, 88, 1, 1, 1, 1, 1, 0, 29, 81, 0, 43, 1, 666, 1, 1, 1, 1, 1, 1, 1, 27, 1, 1, 1, 1, 1, 1, 1, 1, 1, 1, 1] rfl (by decide +kernel)) xgL0) xgL1) xgL2
set_option maxRecDepth 20000 in
theorem gL_law_L_addBoard : GoodIn wsL_law (va_wsS RL 109 yL_addBoard wsL_addBoard) := goodIn_app (goodIn_g _ [91, 1, 1] rfl (by decide +kernel)) ggL_law_L_addBoard
set_option maxRecDepth 20000 in
theorem ggL_law_X4_addBoard : GoodIn wsL_law wsX4_addBoard := goodIn_ca (goodIn_g _ [114, 1, 1, 0, 73, 1, 1, 42, 1, 0, 6, 113, 1, 1, 1, 1, 1, 1, 1, 592, 1, 1, 1, 1, 1, 1, 1, 1, 1, 1, 1, 1, 1, 1, 1, 1, 1, 1, 1, 1, 1] rfl (by decide +kernel)) xgL0
set_option maxRecDepth 20000 in
theorem gL_law_X4_addBoard : GoodIn wsL_law (wsV RL 114 RX4 yX4_addBoard wsX4_addBoard) := goodIn_app (goodIn_g _ [111, 1, 1, 0, 6] rfl (by decide +kernel)) ggL_law_X4_addBoard
set_option maxRecDepth 20000 in
theorem ggL_law_L_setSun : GoodIn wsL_law wsL_setSun := goodIn_ca (goodIn_ca (goodIn_g _ [129, 0, 95, 35, 1, 1, 0, 3, 130, 0, 100, 1, 0, 26, 684, 1, 1, 1, 1, 1, 1, 1] rfl (by decide +kernel)) xgL0) xgL1
set_option maxRecDepth 20000 in
theorem gL_law_L_setSun : GoodIn wsL_law (va_wsS RL 115 yL_setSun wsL_setSun) := goodIn_app (goodIn_g _ [127, 1, 0, 93] rfl (by decide +kernel)) ggL_law_L_setSun
set_option maxRecDepth 20000 in
theorem ggL_law_X4_setSun : GoodIn wsL_law wsX4_setSun := goodIn_g _ [137, 0, 115, 0, 72, 48, 1, 0, 6, 116, 1, 1, 1, 1, 592, 1, 1, 1, 1, 1, 1, 1, 1, 1, 1, 1, 1, 1, 1, 1, 1, 1, 1, 1, 1, 1] rfl (by decide +kernel)
set_option maxRecDepth 20000 in
theorem gL_law_X4_setSun : GoodIn wsL_law (wsV RL 118 RX4 yX4_setSun wsX4_setSun) := goodIn_app (goodIn_g _ [134, 1, 1, 0, 6] rfl (by decide +kernel)) ggL_law_X4_setSun
set_option maxRecDepth 20000 in
theorem ggL_law_L_charge : GoodIn wsL_law wsL_charge := goodIn_ca (goodIn_ca (goodIn_g _ [140, 1, 1, 1, 1, 0, 3, 142, 1, 1, 1, 1, 1, 1, 0, 17, 0, 16, 728, 1, 1, 1, 1, 1, 1, 1, 1, 1, 1, 1, 0, 710, 1, 1, 1, 1, 1, 1, 1] rfl (by decide +kernel)) xgL0) xgL3
set_option maxRecDepth 20000 in
theorem gL_law_L_charge : GoodIn wsL_law (va_wsS RL 119 yL_charge wsL_charge) := goodIn_app (goodIn_g _ [138, 1, 0, 93] rfl (by decide +kernel)) ggL_law_L_charge
set_option maxRecDepth 20000 in
theorem ggL_law_X4_charge : GoodIn wsL_law wsX4_charge := goodIn_ca (goodIn_g _ [155, 0, 115, 0, 74, 82, 1, 1, 0, 6, 153, 0, 116, 4, 1, 1, 1, 1, 1, 1, 592, 1, 1, 1, 1, 1, 1, 1, 1, 1, 1, 1, 1, 1, 1, 1, 1, 1, 1, 1, 1, 1] rfl (by decide +kernel)) xgL0
set_option maxRecDepth 20000 in
theorem gL_law_X4_charge : GoodIn wsL_law (wsV RL 121 RX4 yX4_charge wsX4_charge) := goodIn_app (goodIn_g _ [152, 1, 1, 0, 6] rfl (by decide +kernel)) ggL_law_X4_charge
set_option maxRecDepth 20000 in
theorem ggL_law_L_cell : GoodIn wsL_law wsL_cell := goodIn_ca (goodIn_ca (goodIn_g _ [162, 0, 141, 22, 1, 1, 0, 3, 163, 0, 146, 1, 1, 1, 1, 1, 0, 17, 0, 16, 151, 1, 1, 1, 1, 1, 572, 1, 1, 1, 1, 1, 1, 1, 1, 1, 1, 1, 0, 710, 1, 1, 1, 1, 1, 1, 1] rfl (by decide +kernel)) xgL0) xgL3
set_option maxRecDepth 20000 in
theorem gL_law_L_cell : GoodIn wsL_law (va_wsS RL 122 yL_cell wsL_cell) := goodIn_app (goodIn_g _ [160, 1, 0, 93] rfl (by decide +kernel)) ggL_law_L_cell
set_option maxRecDepth 20000 in
theorem ggL_law_X4_cell : GoodIn wsL_law wsX4_cell := goodIn_ca (goodIn_g _ [176, 0, 115, 0, 79, 98, 1, 1, 0, 6, 174, 0, 156, 1, 1, 1, 0, 116, 4, 1, 1, 1, 1, 1, 1, 592, 1, 1, 1, 1, 1, 1, 1, 1, 1, 1, 1, 1, 1, 1, 1, 1, 1, 1, 1, 1, 1] rfl (by decide +kernel)) xgL0
set_option maxRecDepth 20000 in
theorem gL_law_X4_cell : GoodIn wsL_law (wsV RL 125 RX4 yX4_cell wsX4_cell) := goodIn_app (goodIn_g _ [173, 1, 1, 0, 6] rfl (by decide +kernel)) ggL_law_X4_cell
set_option maxRecDepth 20000 in
theorem ggL_law_L_wear : GoodIn wsL_law wsL_wear := goodIn_ca (goodIn_ca (goodIn_g _ [183, 0, 141, 43, 1, 1, 0, 3, 184, 0, 146, 1, 1, 1, 1, 1, 0, 17, 0, 16, 151, 1, 1, 19, 1, 1, 0, 29, 162, 0, 49, 661, 1, 1, 1, 1, 1, 1, 1, 27, 1, 1, 1, 1, 1, 1, 1, 1, 1, 1, 1] rfl (by decide +kernel)) xgL0) xgL3
set_option maxRecDepth 20000 in
theorem gL_law_L_wear : GoodIn wsL_law (va_wsS RL 126 yL_wear wsL_wear) := goodIn_app (goodIn_g _ [181, 1, 0, 93] rfl (by decide +kernel)) ggL_law_L_wear
set_option maxRecDepth 20000 in
theorem ggL_law_X4_wear : GoodIn wsL_law wsX4_wear := goodIn_ca (goodIn_g _ [195, 0, 115, 0, 80, 97, 1, 1, 0, 6, 174, 0, 156, 1, 1, 1, 0, 116, 4, 1, 1, 1, 1, 1, 1, 592, 1, 1, 1, 1, 1, 1, 1, 1, 1, 1, 1, 1, 1, 1, 1, 1, 1, 1, 1, 1, 1] rfl (by decide +kernel)) xgL0
set_option maxRecDepth 20000 in
theorem gL_law_X4_wear : GoodIn wsL_law (wsV RL 128 RX4 yX4_wear wsX4_wear) := goodIn_app (goodIn_g _ [192, 1, 1, 0, 6] rfl (by decide +kernel)) ggL_law_X4_wear
set_option maxRecDepth 20000 in
theorem ggL_law_L_shows : GoodIn wsL_law wsL_shows := goodIn_ca (goodIn_ca (goodIn_g _ [198, 0, 141, 58, 1, 1, 0, 3, 199, 0, 146, 1, 1, 1, 1, 1, 0, 17, 0, 16, 728, 1, 1, 1, 1, 1, 1, 1, 1, 1, 1, 1, 1, 1, 1, 1, 1, 1, 1, 1, 1, 0, 710, 1, 1, 1, 1, 1, 1, 1] rfl (by decide +kernel)) xgL0) xgL3
set_option maxRecDepth 20000 in
theorem gL_law_L_shows : GoodIn wsL_law (va_wsS RL 129 yL_shows wsL_shows) := goodIn_app (goodIn_g _ [196, 1, 0, 93] rfl (by decide +kernel)) ggL_law_L_shows
set_option maxRecDepth 20000 in
theorem ggL_law_X4_shows : GoodIn wsL_law wsX4_shows := goodIn_ca (goodIn_g _ [206, 0, 115, 0, 75, 81, 1, 1, 0, 6, 153, 0, 116, 4, 1, 1, 1, 1, 1, 1, 592, 1, 1, 1, 1, 1, 1, 1, 1, 1, 1, 1, 1, 1, 1, 1, 1, 1, 1, 1, 1, 1] rfl (by decide +kernel)) xgL0
set_option maxRecDepth 20000 in
theorem gL_law_X4_shows : GoodIn wsL_law (wsV RL 131 RX4 yX4_shows wsX4_shows) := goodIn_app (goodIn_g _ [203, 1, 1, 0, 6] rfl (by decide +kernel)) ggL_law_X4_shows
set_option maxRecDepth 20000 in
theorem ggL_law_L_shift : GoodIn wsL_law wsL_shift := goodIn_ca (goodIn_ca (goodIn_g _ [209, 0, 141, 69, 1, 1, 0, 3, 210, 0, 146, 1, 1, 1, 1, 1, 0, 17, 0, 16, 728, 1, 1, 1, 1, 1, 1, 1, 1, 1, 1, 1, 0, 710, 1, 1, 1, 1, 1, 1, 1] rfl (by decide +kernel)) xgL0) xgL3
set_option maxRecDepth 20000 in
theorem gL_law_L_shift : GoodIn wsL_law (va_wsS RL 132 yL_shift wsL_shift) := goodIn_app (goodIn_g _ [207, 1, 0, 93] rfl (by decide +kernel)) ggL_law_L_shift
set_option maxRecDepth 20000 in
theorem ggL_law_X4_shift : GoodIn wsL_law wsX4_shift := goodIn_ca (goodIn_g _ [217, 0, 115, 0, 76, 80, 1, 1, 0, 6, 153, 0, 116, 4, 1, 1, 1, 1, 1, 1, 592, 1, 1, 1, 1, 1, 1, 1, 1, 1, 1, 1, 1, 1, 1, 1, 1, 1, 1, 1, 1, 1] rfl (by decide +kernel)) xgL0
set_option maxRecDepth 20000 in
theorem gL_law_X4_shift : GoodIn wsL_law (wsV RL 134 RX4 yX4_shift wsX4_shift) := goodIn_app (goodIn_g _ [214, 1, 1, 0, 6] rfl (by decide +kernel)) ggL_law_X4_shift
set_option maxRecDepth 20000 in
theorem ggL_law_L_sleeps : GoodIn wsL_law wsL_sleeps := goodIn_ca (goodIn_ca (goodIn_g _ [220, 0, 141, 80, 1, 1, 0, 3, 221, 0, 146, 1, 1, 1, 1, 1, 0, 17, 0, 16, 728, 1, 1, 1, 1, 1, 1, 1, 1, 1, 1, 1, 0, 710, 1, 1, 1, 1, 1, 1, 1] rfl (by decide +kernel)) xgL0) xgL3
set_option maxRecDepth 20000 in
theorem gL_law_L_sleeps : GoodIn wsL_law (va_wsS RL 135 yL_sleeps wsL_sleeps) := goodIn_app (goodIn_g _ [218, 1, 0, 93] rfl (by decide +kernel)) ggL_law_L_sleeps
set_option maxRecDepth 20000 in
theorem ggL_law_X4_sleeps : GoodIn wsL_law wsX4_sleeps := goodIn_ca (goodIn_g _ [228, 0, 115, 0, 78, 78, 1, 1, 0, 6, 153, 0, 116, 4, 1, 1, 1, 1, 1, 1, 592, 1, 1, 1, 1, 1, 1, 1, 1, 1, 1, 1, 1, 1, 1, 1, 1, 1, 1, 1, 1, 1] rfl (by decide +kernel)) xgL0
set_option maxRecDepth 20000 in
theorem gL_law_X4_sleeps : GoodIn wsL_law (wsV RL 137 RX4 yX4_sleeps wsX4_sleeps) := goodIn_app (goodIn_g _ [225, 1, 1, 0, 6] rfl (by decide +kernel)) ggL_law_X4_sleeps
set_option maxRecDepth 20000 in
theorem ggL_law_L_post : GoodIn wsL_law wsL_post := goodIn_ca (goodIn_ca (goodIn_ca (goodIn_g _ [231, 0, 95, 137, 1, 1, 0, 3, 232, 0, 100, 1, 135, 1, 1, 1, 0, 102, 1, 0, 21, 0, 19, 1, 220, 1, 1, 0, 31, 212, 0, 60, 1, 1, 1, 693, 1, 1, 1, 1, 1, 1, 1, 1, 0, 710, 1, 1, 1, 1, 1, 1, 1] rfl (by decide +kernel)) xgL0) xgL1) xgL2
set_option maxRecDepth 20000 in
theorem gL_law_L_post : GoodIn wsL_law (va_wsS RL 138 yL_post wsL_post) := goodIn_app (goodIn_g _ [229, 1, 0, 93] rfl (by decide +kernel)) ggL_law_L_post
set_option maxRecDepth 20000 in
theorem ggL_law_X4_post : GoodIn wsL_law wsX4_post := goodIn_ca (goodIn_g _ [247, 0, 115, 133, 0, 120, 1, 0, 6, 116, 1, 1, 1, 1, 123, 1, 1, 1, 0, 81, 1, 1, 1, 634, 1, 1, 1, 1, 1, 1, 1, 1, 1, 1, 1, 1, 1, 1, 1, 1, 1, 1, 1, 1, 1] rfl (by decide +kernel)) xgL0
set_option maxRecDepth 20000 in
theorem gL_law_X4_post : GoodIn wsL_law (wsV RL 141 RX4 yX4_post wsX4_post) := goodIn_app (goodIn_g _ [244, 1, 1, 0, 6] rfl (by decide +kernel)) ggL_law_X4_post
set_option maxRecDepth 20000 in
theorem ggL_law_L_queue : GoodIn wsL_law wsL_queue := goodIn_ca (goodIn_ca (goodIn_ca (goodIn_ca (goodIn_g _ [255, 0, 141, 115, 1, 1, 0, 3, 256, 1, 1, 0, 27, 235, 1, 1, 1, 0, 150, 1, 0, 21, 0, 19, 85, 1, 1, 0, 100, 1, 165, 1, 1, 0, 31, 238, 0, 66, 105, 1, 98, 1, 1, 1, 0, 63, 211, 1, 1, 1, 479, 1, 1, 1, 1, 1, 1, 1, 1, 0, 710, 1, 1, 1, 1, 1, 1, 1] rfl (by decide +kernel)) xgL0) xgL4) xgL3) xgL1
set_option maxRecDepth 20000 in
theorem gL_law_L_queue : GoodIn wsL_law (va_wsS RL 142 yL_queue wsL_queue) := goodIn_app (goodIn_g _ [253, 1, 0, 93] rfl (by decide +kernel)) ggL_law_L_queue
set_option maxRecDepth 20000 in
theorem ggL_law_X4_queue : GoodIn wsL_law wsX4_queue := goodIn_ca (goodIn_g _ [281, 0, 115, 0, 85, 1, 1, 195, 1, 1, 0, 6, 279, 0, 248, 0, 120, 1, 1, 1, 1, 1, 1, 0, 117, 1, 1, 599, 1, 1, 1, 1, 1, 1, 1, 1, 1, 1, 1, 1, 1, 1, 1, 1, 1, 1, 1, 1, 1] rfl (by decide +kernel)) xgL0
set_option maxRecDepth 20000 in
theorem gL_law_X4_queue : GoodIn wsL_law (wsV RL 144 RX4 yX4_queue wsX4_queue) := goodIn_app (goodIn_g _ [278, 1, 1, 0, 6] rfl (by decide +kernel)) ggL_law_X4_queue
set_option maxRecDepth 20000 in
theorem ggL_law_L_takeBack : GoodIn wsL_law wsL_takeBack := goodIn_ca (goodIn_ca (goodIn_ca (goodIn_ca (goodIn_g _ [288, 0, 141, 148, 1, 1, 0, 3, 289, 0, 100, 1, 159, 1, 0, 27, 235, 1, 1, 1, 0, 150, 1, 0, 21, 0, 19, 274, 1, 1, 1, 0, 17, 0, 16, 694, 1, 1, 1, 1, 1, 1, 1, 39, 1, 1, 1, 1, 1, 1, 1, 1, 0, 744, 1, 1, 1, 1, 1, 1, 1, 1, 1, 1, 1] rfl (by decide +kernel)) xgL0) xgL1) xgL4) xgL3
set_option maxRecDepth 20000 in
theorem gL_law_L_takeBack : GoodIn wsL_law (va_wsS RL 145 yL_takeBack wsL_takeBack) := goodIn_app (goodIn_g _ [286, 1, 0, 93] rfl (by decide +kernel)) ggL_law_L_takeBack
set_option maxRecDepth 20000 in
theorem ggL_law_X4_takeBack : GoodIn wsL_law wsX4_takeBack := goodIn_ca (goodIn_g _ [300, 0, 115, 186, 0, 84, 2, 0, 85, 31, 0, 75, 207, 1, 1, 0, 6, 279, 0, 248, 0, 120, 1, 1, 1, 1, 1, 1, 592, 1, 1, 1, 1, 1, 1, 1, 1, 1, 1, 1, 1, 1, 1, 1, 1, 1, 1, 1, 1, 1] rfl (by decide +kernel)) xgL0
set_option maxRecDepth 20000 in
theorem gL_law_X4_takeBack : GoodIn wsL_law (wsV RL 147 RX4 yX4_takeBack wsX4_takeBack) := goodIn_app (goodIn_g _ [297, 1, 1, 0, 6] rfl (by decide +kernel)) ggL_law_X4_takeBack
set_option maxRecDepth 20000 in
theorem ggL_law_L_mend : GoodIn wsL_law wsL_mend := goodIn_ca (goodIn_ca (goodIn_ca (goodIn_ca (goodIn_ca (goodIn_g _ [304, 0, 141, 164, 1, 1, 0, 3, 305, 0, 100, 1, 159, 1, 0, 27, 282, 1, 1, 1, 1, 1, 1, 0, 262, 1, 1, 1, 0, 150, 1, 0, 21, 0, 19, 297, 0, 271, 1, 0, 31, 242, 0, 63, 173, 1, 1, 1, 0, 102, 1, 0, 20, 220, 1, 1, 1, 0, 60, 1, 1, 255, 1, 1, 1, 0, 266, 1, 1, 1, 0, 66, 105, 1, 98, 51, 1, 1, 1, 0, 17, 0, 16, 258, 1, 1, 1, 479, 1, 1, 1, 1, 1, 1, 1, 1, 0, 710, 1, 1, 1, 1, 1, 1, 1, 27, 1, 1, 1, 1, 1, 1, 1, 1, 1, 1, 1] rfl (by decide +kernel)) xgL0) xgL1) xgL4) xgL3) xgL2
set_option maxRecDepth 20000 in
theorem gL_law_L_mend : GoodIn wsL_law (va_wsS RL 148 yL_mend wsL_mend) := goodIn_app (goodIn_g _ [302, 1, 0, 93] rfl (by decide +kernel)) ggL_law_L_mend
set_option maxRecDepth 20000 in
theorem ggL_law_X4_mend : GoodIn wsL_law wsX4_mend := goodIn_ca (goodIn_g _ [328, 0, 115, 0, 82, 4, 215, 0, 84, 164, 0, 81, 2, 4, 195, 1, 1, 0, 6, 279, 0, 120, 1, 1, 1, 1, 1, 1, 203, 1, 1, 1, 1, 1, 0, 249, 1, 1, 1, 83, 1, 1, 1, 0, 116, 0, 73, 15, 630, 1, 1, 1, 1, 1, 1, 1, 1, 1, 1, 1, 1, 1, 1, 1, 1, 1, 1, 1, 1, 1] rfl (by decide +kernel)) xgL0
set_option maxRecDepth 20000 in
theorem gL_law_X4_mend : GoodIn wsL_law (wsV RL 150 RX4 yX4_mend wsX4_mend) := goodIn_app (goodIn_g _ [325, 1, 1, 0, 6] rfl (by decide +kernel)) ggL_law_X4_mend
set_option maxRecDepth 20000 in
theorem ggL_law_L_deny : GoodIn wsL_law wsL_deny := goodIn_ca (goodIn_ca (goodIn_ca (goodIn_g _ [341, 0, 95, 247, 1, 1, 0, 3, 342, 0, 100, 1, 0, 27, 77, 1, 1, 130, 1, 1, 1, 0, 102, 1, 0, 21, 0, 19, 1, 220, 1, 1, 0, 31, 212, 0, 60, 1, 1, 1, 211, 1, 1, 1, 0, 66, 644, 1, 1, 1, 1, 1, 1, 1, 39, 1, 1, 1, 1, 1, 1, 1, 1] rfl (by decide +kernel)) xgL0) xgL1) xgL2
set_option maxRecDepth 20000 in
theorem gL_law_L_deny : GoodIn wsL_law (va_wsS RL 151 yL_deny wsL_deny) := goodIn_app (goodIn_g _ [339, 1, 0, 93] rfl (by decide +kernel)) ggL_law_L_deny
set_option maxRecDepth 20000 in
theorem ggL_law_X4_deny : GoodIn wsL_law wsX4_deny := goodIn_ca (goodIn_g _ [349, 0, 115, 186, 0, 248, 0, 87, 30, 1, 0, 6, 113, 1, 1, 1, 1, 1, 1, 1, 123, 1, 1, 1, 0, 81, 1, 1, 1, 634, 1, 1, 1, 1, 1, 1, 1, 1, 1, 1, 1, 1, 1, 1, 1, 1, 1, 1, 1, 1, 1] rfl (by decide +kernel)) xgL0
set_option maxRecDepth 20000 in
theorem gL_law_X4_deny : GoodIn wsL_law (wsV RL 153 RX4 yX4_deny wsX4_deny) := goodIn_app (goodIn_g _ [346, 1, 1, 0, 6] rfl (by decide +kernel)) ggL_law_X4_deny
set_option maxRecDepth 20000 in
theorem ggL_law_L_queued : GoodIn wsL_law wsL_queued := goodIn_ca (goodIn_ca (goodIn_g _ [352, 0, 95, 258, 1, 1, 0, 3, 353, 0, 21, 0, 19, 8, 77, 1, 1, 0, 100, 1, 165, 1, 1, 0, 31, 238, 0, 66, 105, 1, 98, 1, 1, 1, 0, 63, 647, 1, 1, 1, 1, 1, 1, 1, 39, 1, 1, 1, 1, 1, 1, 1, 1] rfl (by decide +kernel)) xgL0) xgL1
set_option maxRecDepth 20000 in
theorem gL_law_L_queued : GoodIn wsL_law (va_wsS RL 154 yL_queued wsL_queued) := goodIn_app (goodIn_g _ [350, 1, 0, 93] rfl (by decide +kernel)) ggL_law_L_queued
set_option maxRecDepth 20000 in
theorem ggL_law_X4_queued : GoodIn wsL_law wsX4_queued := goodIn_ca (goodIn_g _ [360, 0, 115, 2, 1, 0, 6, 113, 1, 1, 1, 1, 1, 1, 1, 235, 1, 1, 1, 0, 248, 117, 1, 1, 1, 0, 87, 214, 0, 84, 634, 1, 1, 1, 1, 1, 1, 1, 1, 1, 1, 1, 1, 1, 1, 1, 1, 1, 1, 1, 1, 1] rfl (by decide +kernel)) xgL0
set_option maxRecDepth 20000 in
theorem gL_law_X4_queued : GoodIn wsL_law (wsV RL 156 RX4 yX4_queued wsX4_queued) := goodIn_app (goodIn_g _ [357, 1, 1, 0, 6] rfl (by decide +kernel)) ggL_law_X4_queued
set_option maxRecDepth 20000 in
theorem ggL_law_L_queuedAt : GoodIn wsL_law wsL_queuedAt := goodIn_ca (goodIn_ca (goodIn_ca (goodIn_g _ [371, 0, 95, 277, 1, 1, 0, 3, 372, 0, 150, 1, 0, 21, 0, 20, 7, 77, 1, 1, 0, 100, 1, 165, 1, 1, 0, 31, 238, 0, 66, 105, 1, 98, 1, 1, 1, 0, 63, 647, 1, 1, 1, 1, 1, 1, 1, 39, 1, 1, 1, 1, 1, 1, 1, 1] rfl (by decide +kernel)) xgL0) xgL3) xgL1
set_option maxRecDepth 20000 in
theorem gL_law_L_queuedAt : GoodIn wsL_law (va_wsS RL 157 yL_queuedAt wsL_queuedAt) := goodIn_app (goodIn_g _ [369, 1, 0, 93] rfl (by decide +kernel)) ggL_law_L_queuedAt
set_option maxRecDepth 20000 in
theorem ggL_law_X4_queuedAt : GoodIn wsL_law wsX4_queuedAt := goodIn_ca (goodIn_g _ [379, 0, 115, 2, 1, 0, 6, 113, 1, 1, 1, 1, 1, 1, 1, 235, 1, 1, 1, 0, 248, 117, 1, 1, 1, 0, 87, 214, 0, 84, 296, 1, 1, 1, 0, 81, 637, 1, 1, 1, 1, 1, 1, 1, 1, 1, 1, 1, 1, 1, 1, 1, 1, 1, 1, 1, 1, 1] rfl (by decide +kernel)) xgL0
set_option maxRecDepth 20000 in
theorem gL_law_X4_queuedAt : GoodIn wsL_law (wsV RL 159 RX4 yX4_queuedAt wsX4_queuedAt) := goodIn_app (goodIn_g _ [376, 1, 1, 0, 6] rfl (by decide +kernel)) ggL_law_X4_queuedAt
set_option maxRecDepth 20000 in
theorem ggL_law_L_isDue : GoodIn wsL_law wsL_isDue := goodIn_ca (goodIn_ca (goodIn_g _ [386, 0, 141, 246, 1, 1, 0, 3, 387, 0, 27, 235, 1, 1, 1, 0, 150, 1, 0, 21, 0, 19, 372, 1, 1, 0, 31, 363, 0, 62, 1, 647, 1, 1, 1, 1, 1, 1, 1, 39, 1, 1, 1, 1, 1, 1, 1, 1] rfl (by decide +kernel)) xgL0) xgL3
set_option maxRecDepth 20000 in
theorem gL_law_L_isDue : GoodIn wsL_law (va_wsS RL 160 yL_isDue wsL_isDue) := goodIn_app (goodIn_g _ [384, 1, 0, 93] rfl (by decide +kernel)) ggL_law_L_isDue
set_option maxRecDepth 20000 in
theorem ggL_law_X4_isDue : GoodIn wsL_law wsX4_isDue := goodIn_ca (goodIn_g _ [398, 0, 115, 167, 1, 1, 0, 6, 279, 0, 248, 0, 120, 1, 1, 1, 1, 1, 1, 273, 1, 1, 1, 0, 301, 0, 83, 1, 634, 1, 1, 1, 1, 1, 1, 1, 1, 1, 1, 1, 1, 1, 1, 1, 1, 1, 1, 1, 1, 1] rfl (by decide +kernel)) xgL0
set_option maxRecDepth 20000 in
theorem gL_law_X4_isDue : GoodIn wsL_law (wsV RL 162 RX4 yX4_isDue wsX4_isDue) := goodIn_app (goodIn_g _ [395, 1, 1, 0, 6] rfl (by decide +kernel)) ggL_law_X4_isDue
set_option maxRecDepth 20000 in
theorem ggL_law_L_pass : GoodIn wsL_law wsL_pass := goodIn_ca (goodIn_ca (goodIn_ca (goodIn_g _ [405, 0, 141, 265, 1, 1, 0, 3, 406, 0, 100, 1, 0, 25, 2, 119, 1, 1, 1, 1, 1, 0, 17, 0, 16, 394, 1, 1, 0, 24, 389, 0, 39, 0, 36, 1, 1, 376, 1, 1, 1, 327, 1, 1, 1, 1, 1, 1, 1, 1, 1, 1, 1, 1, 1, 1, 1, 1, 1, 1, 1, 1, 0, 710, 1, 1, 1, 1, 1, 1, 1, 23, 1, 1, 1] rfl (by decide +kernel)) xgL0) xgL1) xgL3
set_option maxRecDepth 20000 in
theorem gL_law_L_pass : GoodIn wsL_law (va_wsS RL 163 yL_pass wsL_pass) := goodIn_app (goodIn_g _ [403, 1, 0, 93] rfl (by decide +kernel)) ggL_law_L_pass
set_option maxRecDepth 20000 in
theorem ggL_law_X4_pass : GoodIn wsL_law wsX4_pass := goodIn_ca (goodIn_g _ [421, 0, 115, 0, 75, 13, 2, 211, 0, 156, 1, 1, 0, 6, 153, 0, 116, 4, 1, 1, 1, 1, 1, 1, 592, 1, 1, 1, 1, 1, 1, 1, 1, 1, 1, 1, 1, 1, 1, 1, 1, 1, 1, 1, 1, 1] rfl (by decide +kernel)) xgL0
set_option maxRecDepth 20000 in
theorem gL_law_X4_pass : GoodIn wsL_law (wsV RL 165 RX4 yX4_pass wsX4_pass) := goodIn_app (goodIn_g _ [418, 1, 1, 0, 6] rfl (by decide +kernel)) ggL_law_X4_pass
set_option maxRecDepth 20000 in
theorem ggL_law_L_readers : GoodIn wsL_law wsL_readers := goodIn_ca (goodIn_ca (goodIn_ca (goodIn_g _ [424, 0, 141, 284, 1, 1, 0, 3, 425, 0, 262, 1, 1, 1, 0, 150, 1, 0, 21, 0, 19, 85, 1, 1, 0, 100, 1, 220, 1, 1, 1, 0, 17, 0, 16, 694, 1, 1, 1, 1, 1, 1, 1, 27, 1, 1, 1, 1, 1, 1, 1, 1, 1, 1, 1, 1, 1, 1, 1, 1, 1, 1, 1, 1] rfl (by decide +kernel)) xgL0) xgL3) xgL1
set_option maxRecDepth 20000 in
theorem gL_law_L_readers : GoodIn wsL_law (va_wsS RL 166 yL_readers wsL_readers) := goodIn_app (goodIn_g _ [422, 1, 0, 93] rfl (by decide +kernel)) ggL_law_L_readers
set_option maxRecDepth 20000 in
theorem ggL_law_X4_readers : GoodIn wsL_law wsX4_readers := goodIn_ca (goodIn_g _ [432, 0, 115, 167, 1, 1, 0, 6, 279, 0, 248, 0, 120, 1, 1, 1, 1, 1, 1, 0, 117, 1, 1, 216, 1, 1, 1, 0, 116, 0, 73, 15, 630, 1, 1, 1, 1, 1, 1, 1, 1, 1, 1, 1, 1, 1, 1, 1, 1, 1, 1, 1, 1, 1] rfl (by decide +kernel)) xgL0
set_option maxRecDepth 20000 in
theorem gL_law_X4_readers : GoodIn wsL_law (wsV RL 168 RX4 yX4_readers wsX4_readers) := goodIn_app (goodIn_g _ [429, 1, 1, 0, 6] rfl (by decide +kernel)) ggL_law_X4_readers
set_option maxRecDepth 20000 in
theorem ggL_law_L_readIn : GoodIn wsL_law wsL_readIn := goodIn_ca (goodIn_ca (goodIn_g _ [435, 0, 141, 295, 1, 1, 0, 3, 436, 0, 25, 237, 1, 1, 1, 0, 150, 1, 0, 21, 0, 19, 421, 1, 1, 0, 24, 419, 0, 38, 376, 1, 1, 1, 0, 39, 0, 36, 1, 673, 1, 1, 1, 1, 1, 1, 1, 39, 1, 1, 1, 1, 1, 1, 1, 1, 0, 740, 1, 1, 1] rfl (by decide +kernel)) xgL0) xgL3
set_option maxRecDepth 20000 in
theorem gL_law_L_readIn : GoodIn wsL_law (va_wsS RL 169 yL_readIn wsL_readIn) := goodIn_app (goodIn_g _ [433, 1, 0, 93] rfl (by decide +kernel)) ggL_law_L_readIn
set_option maxRecDepth 20000 in
theorem ggL_law_X4_readIn : GoodIn wsL_law wsX4_readIn := goodIn_ca (goodIn_g _ [447, 0, 115, 0, 90, 192, 1, 1, 0, 6, 279, 0, 248, 0, 120, 1, 1, 1, 1, 1, 1, 592, 1, 1, 1, 1, 1, 1, 1, 1, 1, 1, 1, 1, 1, 1, 1, 1, 1, 1, 1, 1, 1] rfl (by decide +kernel)) xgL0
set_option maxRecDepth 20000 in
theorem gL_law_X4_readIn : GoodIn wsL_law (wsV RL 171 RX4 yX4_readIn wsX4_readIn) := goodIn_app (goodIn_g _ [444, 1, 1, 0, 6] rfl (by decide +kernel)) ggL_law_X4_readIn
set_option maxRecDepth 20000 in
theorem ggL_law_L_suspects : GoodIn wsL_law wsL_suspects := goodIn_ca (goodIn_ca (goodIn_g _ [450, 0, 95, 356, 1, 1, 0, 3, 451, 0, 21, 0, 19, 436, 1, 1, 0, 100, 1, 3, 1, 1, 352, 1, 1, 1, 0, 321, 1, 1, 1, 0, 17, 0, 16, 446, 1, 1, 0, 31, 434, 0, 61, 405, 1, 1, 242, 1, 1, 1, 1, 1, 1, 1, 27, 1, 1, 1, 1, 1, 1, 1, 1, 1, 1, 1, 1, 1, 1, 1, 1, 1, 1, 1, 1] rfl (by decide +kernel)) xgL0) xgL1
set_option maxRecDepth 20000 in
theorem gL_law_L_suspects : GoodIn wsL_law (va_wsS RL 172 yL_suspects wsL_suspects) := goodIn_app (goodIn_g _ [448, 1, 0, 93] rfl (by decide +kernel)) ggL_law_L_suspects
set_option maxRecDepth 20000 in
theorem ggL_law_X4_suspects : GoodIn wsL_law wsX4_suspects := goodIn_ca (goodIn_g _ [472, 0, 115, 2, 1, 0, 6, 113, 1, 1, 1, 1, 1, 1, 1, 347, 1, 1, 1, 0, 248, 229, 1, 1, 1, 0, 82, 399, 1, 1, 0, 335, 1, 1, 1, 0, 116, 0, 73, 15, 630, 1, 1, 1, 1, 1, 1, 1, 1, 1, 1, 1, 1, 1, 1, 1, 1, 1, 1, 1, 1, 1] rfl (by decide +kernel)) xgL0
set_option maxRecDepth 20000 in
theorem gL_law_X4_suspects : GoodIn wsL_law (wsV RL 174 RX4 yX4_suspects wsX4_suspects) := goodIn_app (goodIn_g _ [469, 1, 1, 0, 6] rfl (by decide +kernel)) ggL_law_X4_suspects
set_option maxRecDepth 20000 in
theorem ggL_law_L_suspectAt : GoodIn wsL_law wsL_suspectAt := goodIn_ca (goodIn_ca (goodIn_ca (goodIn_g _ [486, 0, 95, 392, 1, 1, 0, 3, 487, 0, 150, 1, 0, 21, 0, 19, 436, 1, 1, 0, 100, 1, 3, 1, 1, 352, 1, 1, 1, 0, 321, 1, 1, 1, 0, 17, 0, 16, 446, 1, 1, 0, 31, 434, 0, 61, 405, 1, 1, 23, 1, 1, 1, 216, 1, 1, 1, 1, 1, 1, 1, 27, 1, 1, 1, 1, 1, 1, 1, 1, 1, 1, 1, 1, 1, 1, 1, 1, 1, 1, 1, 1] rfl (by decide +kernel)) xgL0) xgL3) xgL1
set_option maxRecDepth 20000 in
theorem gL_law_L_suspectAt : GoodIn wsL_law (va_wsS RL 175 yL_suspectAt wsL_suspectAt) := goodIn_app (goodIn_g _ [484, 1, 0, 93] rfl (by decide +kernel)) ggL_law_L_suspectAt
set_option maxRecDepth 20000 in
theorem ggL_law_X4_suspectAt : GoodIn wsL_law wsX4_suspectAt := goodIn_ca (goodIn_g _ [498, 0, 115, 133, 0, 117, 1, 0, 6, 113, 1, 1, 1, 1, 1, 1, 1, 347, 1, 1, 1, 1, 1, 1, 1, 0, 82, 399, 1, 1, 0, 335, 1, 1, 1, 0, 116, 0, 73, 15, 630, 1, 1, 1, 1, 1, 1, 1, 1, 1, 1, 1, 1, 1, 1, 1, 1, 1, 1, 1, 1, 1] rfl (by decide +kernel)) xgL0
set_option maxRecDepth 20000 in
theorem gL_law_X4_suspectAt : GoodIn wsL_law (wsV RL 177 RX4 yX4_suspectAt wsX4_suspectAt) := goodIn_app (goodIn_g _ [495, 1, 1, 0, 6] rfl (by decide +kernel)) ggL_law_X4_suspectAt
set_option maxRecDepth 20000 in
theorem ggL_law_L_go : GoodIn wsL_law wsL_go := goodIn_ca (goodIn_ca (goodIn_ca (goodIn_g _ [501, 0, 95, 407, 1, 1, 0, 3, 502, 0, 100, 1, 1, 1, 0, 27, 0, 17, 0, 16, 490, 1, 1, 1, 0, 26, 0, 21, 0, 20, 490, 1, 1, 0, 29, 484, 0, 44, 470, 0, 310, 1, 1, 79, 1, 1, 0, 31, 363, 0, 62, 1, 452, 1, 1, 1, 0, 48, 0, 45, 1, 473, 1, 1, 1, 0, 54, 0, 53, 470, 1, 1, 1, 1, 1, 1, 0, 171, 1, 358, 1, 1, 1, 0, 49, 1, 1, 1, 214, 1, 1, 1, 0, 66, 204, 1, 1, 1, 261, 1, 1, 1, 1, 1, 1, 1, 0, 466, 1, 1, 74, 1, 1, 1, 1, 1, 1, 1, 161, 1, 1, 1, 1, 1, 1, 1, 27, 1, 1, 1, 1, 1, 1, 1, 1, 1, 1, 1, 1, 1, 1, 1, 1, 1, 1, 1, 1] rfl (by decide +kernel)) xgL0) xgL1) xgL2
set_option maxRecDepth 20000 in
theorem gL_law_L_go : GoodIn wsL_law (va_wsS RL 178 yL_go wsL_go) := goodIn_app (goodIn_g _ [499, 1, 0, 93] rfl (by decide +kernel)) ggL_law_L_go
set_option maxRecDepth 20000 in
theorem ggL_law_X4_go : GoodIn wsL_law wsX4_go := goodIn_ca (goodIn_g _ [553, 0, 115, 186, 0, 116, 0, 74, 0, 72, 3, 9, 36, 1, 0, 6, 116, 1, 1, 1, 1, 203, 1, 1, 223, 1, 1, 1, 0, 79, 0, 76, 482, 1, 1, 1, 0, 80, 482, 1, 1, 1, 1, 0, 73, 5, 4, 279, 1, 1, 1, 0, 248, 117, 1, 1, 1, 0, 87, 293, 1, 1, 1, 0, 81, 318, 1, 1, 1, 0, 83, 484, 1, 1, 1, 1, 1, 1, 1, 1, 1, 1, 1, 1, 1, 1, 1, 0, 481, 1, 1, 100, 1, 1, 1, 1, 1, 1, 0, 332, 1, 1, 256, 1, 1, 1, 125, 1, 1, 1, 1, 1, 1, 1, 1, 1, 1, 1, 1, 1, 1, 1, 1, 1, 1, 1, 1, 1] rfl (by decide +kernel)) xgL0
set_option maxRecDepth 20000 in
theorem gL_law_X4_go : GoodIn wsL_law (wsV RL 180 RX4 yX4_go wsX4_go) := goodIn_app (goodIn_g _ [550, 1, 1, 0, 6] rfl (by decide +kernel)) ggL_law_X4_go
set_option maxRecDepth 20000 in
theorem ggL_law_X3_hour : GoodIn wsL_law wsX3_hour := goodIn_g _ [597, 0, 27, 683, 1, 1, 1, 1, 1, 1, 1] rfl (by decide +kernel)
set_option maxRecDepth 20000 in
theorem gL_law_X3_hour : GoodIn wsL_law (wsV RL 181 RX3 yX3_hour wsX3_hour) := goodIn_app (goodIn_g _ [594, 1, 1, 0, 3] rfl (by decide +kernel)) ggL_law_X3_hour
set_option maxRecDepth 20000 in
theorem ggL_law_X4_hour : GoodIn wsL_law wsX4_hour := goodIn_g _ [601, 0, 115, 186, 417, 1, 1, 1, 1, 1, 1, 1, 1, 1, 1, 1, 1, 1, 1, 1, 1, 1, 1, 1, 1, 1] rfl (by decide +kernel)
set_option maxRecDepth 20000 in
theorem gL_law_X4_hour : GoodIn wsL_law (wsV RL 185 RX4 yX4_hour wsX4_hour) := goodIn_app (goodIn_g _ [598, 1, 1, 0, 6] rfl (by decide +kernel)) ggL_law_X4_hour
set_option maxRecDepth 20000 in
theorem ggL_law_X3_boards : GoodIn wsL_law wsX3_boards := goodIn_g _ [605, 0, 17, 693, 1, 1, 1, 1, 1, 1, 1] rfl (by decide +kernel)
set_option maxRecDepth 20000 in
theorem gL_law_X3_boards : GoodIn wsL_law (wsV RL 186 RX3 yX3_boards wsX3_boards) := goodIn_app (goodIn_g _ [602, 1, 1, 0, 3] rfl (by decide +kernel)) ggL_law_X3_boards
set_option maxRecDepth 20000 in
theorem ggL_law_X4_boards : GoodIn wsL_law wsX4_boards := goodIn_g _ [609, 0, 115, 1, 602, 1, 1, 1, 1, 1, 1, 1, 1, 1, 1, 1, 1, 1, 1, 1, 1, 1, 1, 1, 1, 1] rfl (by decide +kernel)
set_option maxRecDepth 20000 in
theorem gL_law_X4_boards : GoodIn wsL_law (wsV RL 189 RX4 yX4_boards wsX4_boards) := goodIn_app (goodIn_g _ [606, 1, 1, 0, 6] rfl (by decide +kernel)) ggL_law_X4_boards
set_option maxRecDepth 20000 in
theorem ggL_law_X3_notices : GoodIn wsL_law wsX3_notices := goodIn_g _ [613, 0, 21, 689, 1, 1, 1, 1, 1, 1, 1] rfl (by decide +kernel)
set_option maxRecDepth 20000 in
theorem gL_law_X3_notices : GoodIn wsL_law (wsV RL 190 RX3 yX3_notices wsX3_notices) := goodIn_app (goodIn_g _ [610, 1, 1, 0, 3] rfl (by decide +kernel)) ggL_law_X3_notices
set_option maxRecDepth 20000 in
theorem ggL_law_X4_notices : GoodIn wsL_law wsX4_notices := goodIn_g _ [617, 0, 115, 133, 470, 1, 1, 1, 1, 1, 1, 1, 1, 1, 1, 1, 1, 1, 1, 1, 1, 1, 1, 1, 1, 1] rfl (by decide +kernel)
set_option maxRecDepth 20000 in
theorem gL_law_X4_notices : GoodIn wsL_law (wsV RL 193 RX4 yX4_notices wsX4_notices) := goodIn_app (goodIn_g _ [614, 1, 1, 0, 6] rfl (by decide +kernel)) ggL_law_X4_notices
set_option maxRecDepth 20000 in
theorem ggL_law_L_cellAnew : GoodIn wsL_law wsL_cellAnew := goodIn_ca (goodIn_ca (goodIn_g _ [620, 0, 141, 480, 1, 1, 0, 3, 621, 0, 146, 1, 1, 1, 1, 1, 0, 17, 0, 16, 609, 1, 1, 0, 29, 599, 0, 54, 0, 53, 114, 1, 1, 1, 1, 1, 538, 1, 1, 1, 1, 1, 1, 1, 27, 1, 1, 1, 1, 1, 1, 1, 1, 1, 1, 1] rfl (by decide +kernel)) xgL0) xgL3
set_option maxRecDepth 20000 in
theorem gL_law_L_cellAnew : GoodIn wsL_law (va_wsS RL 194 yL_cellAnew wsL_cellAnew) := goodIn_app (goodIn_g _ [618, 1, 0, 93] rfl (by decide +kernel)) ggL_law_L_cellAnew
set_option maxRecDepth 20000 in
theorem ggL_law_X4_cellAnew : GoodIn wsL_law wsX4_cellAnew := goodIn_ca (goodIn_g _ [632, 1, 0, 174, 1, 0, 6, 170, 0, 115, 0, 79, 98, 1, 1, 1, 0, 156, 1, 1, 1, 0, 116, 4, 1, 1, 1, 1, 1, 1, 592, 1, 1, 1, 1, 1, 1, 1, 1, 1, 1, 1, 1, 1, 1, 1, 1, 1, 1, 1, 1, 1] rfl (by decide +kernel)) xgL0
set_option maxRecDepth 20000 in
theorem gL_law_X4_cellAnew : GoodIn wsL_law (wsV RL 196 RX4 yX4_cellAnew wsX4_cellAnew) := goodIn_app (goodIn_g _ [629, 1, 1, 0, 6] rfl (by decide +kernel)) ggL_law_X4_cellAnew
set_option maxRecDepth 20000 in
theorem ggL_law_X3_changes : GoodIn wsL_law wsX3_changes := goodIn_ca (goodIn_g _ [637, 0, 17, 0, 16, 622, 1, 1, 0, 29, 612, 0, 49, 661, 1, 1, 1, 1, 1, 1, 1, 27, 1, 1, 1, 1, 1, 1, 1, 1, 1, 1, 1] rfl (by decide +kernel)) xgL0
set_option maxRecDepth 20000 in
theorem gL_law_X3_changes : GoodIn wsL_law (wsV RL 197 RX3 yX3_changes wsX3_changes) := goodIn_app (goodIn_g _ [634, 1, 1, 0, 3] rfl (by decide +kernel)) ggL_law_X3_changes
set_option maxRecDepth 20000 in
theorem ggL_law_X4_changes : GoodIn wsL_law wsX4_changes := goodIn_g _ [645, 0, 115, 447, 156, 1, 1, 1, 1, 1, 1, 1, 1, 1, 1, 1, 1, 1, 1, 1, 1, 1, 1, 1, 1, 1] rfl (by decide +kernel)
set_option maxRecDepth 20000 in
theorem gL_law_X4_changes : GoodIn wsL_law (wsV RL 201 RX4 yX4_changes wsX4_changes) := goodIn_app (goodIn_g _ [642, 1, 1, 0, 6] rfl (by decide +kernel)) ggL_law_X4_changes
set_option maxRecDepth 20000 in
theorem ggL_law_L_worst : GoodIn wsL_law wsL_worst := goodIn_ca (goodIn_ca (goodIn_g _ [648, 0, 141, 508, 1, 1, 0, 3, 649, 0, 146, 1, 1, 1, 1, 1, 0, 17, 0, 16, 728, 1, 1, 1, 1, 1, 1, 1, 1, 1, 1, 1, 0, 710, 1, 1, 1, 1, 1, 1, 1] rfl (by decide +kernel)) xgL0) xgL3
set_option maxRecDepth 20000 in
theorem gL_law_L_worst : GoodIn wsL_law (va_wsS RL 202 yL_worst wsL_worst) := goodIn_app (goodIn_g _ [646, 1, 0, 93] rfl (by decide +kernel)) ggL_law_L_worst
set_option maxRecDepth 20000 in
theorem ggL_law_X4_worst : GoodIn wsL_law wsX4_worst := goodIn_ca (goodIn_g _ [656, 0, 115, 0, 80, 76, 1, 1, 0, 6, 153, 0, 116, 4, 1, 1, 1, 1, 1, 1, 206, 1, 1, 384, 1, 1, 1, 1, 1, 1, 1, 1, 1, 1, 1, 1, 1, 1, 1, 1, 1, 1, 1, 1, 1] rfl (by decide +kernel)) xgL0
set_option maxRecDepth 20000 in
theorem gL_law_X4_worst : GoodIn wsL_law (wsV RL 204 RX4 yX4_worst wsX4_worst) := goodIn_app (goodIn_g _ [653, 1, 1, 0, 6] rfl (by decide +kernel)) ggL_law_X4_worst
set_option maxRecDepth 20000 in
theorem ggL_law_X4_thrown : GoodIn wsL_law wsX4_thrown := goodIn_g _ [660, 0, 115, 603, 1, 1, 1, 1, 1, 1, 1, 1, 1, 1, 1, 1, 1, 1, 1, 1, 1, 1, 1, 1, 1] rfl (by decide +kernel)
set_option maxRecDepth 20000 in
theorem gL_law_X4_thrown : GoodIn wsL_law (wsV RL 205 RX4 yX4_thrown wsX4_thrown) := goodIn_app (goodIn_g _ [657, 1, 1, 0, 6] rfl (by decide +kernel)) ggL_law_X4_thrown
set_option maxRecDepth 20000 in
theorem ggL_law_X3_checksum : GoodIn wsL_law wsX3_checksum := goodIn_ca (goodIn_g _ [664, 0, 17, 0, 16, 649, 0, 170, 1, 0, 3, 169, 16, 1, 1, 0, 29, 162, 0, 49, 661, 1, 1, 1, 1, 1, 1, 1, 27, 1, 1, 1, 1, 1, 1, 1, 1, 1, 1, 1] rfl (by decide +kernel)) xgL0
set_option maxRecDepth 20000 in
theorem gL_law_X3_checksum : GoodIn wsL_law (wsV RL 208 RX3 yX3_checksum wsX3_checksum) := goodIn_app (goodIn_g _ [661, 1, 1, 0, 3] rfl (by decide +kernel)) ggL_law_X3_checksum
set_option maxRecDepth 20000 in
theorem ggL_law_X4_checksum : GoodIn wsL_law wsX4_checksum := goodIn_ca (goodIn_g _ [669, 0, 115, 1, 554, 0, 79, 592, 0, 80, 638, 1, 1, 1, 1, 1, 1, 1, 1, 1, 1, 1, 1, 1, 1, 1, 1, 1, 1, 1, 1, 1] rfl (by decide +kernel)) xgL0
set_option maxRecDepth 20000 in
theorem gL_law_X4_checksum : GoodIn wsL_law (wsV RL 211 RX4 yX4_checksum wsX4_checksum) := goodIn_app (goodIn_g _ [666, 1, 1, 0, 6] rfl (by decide +kernel)) ggL_law_X4_checksum
set_option maxRecDepth 20000 in
theorem ggL_law_L_shownShare : GoodIn wsL_law wsL_shownShare := goodIn_ca (goodIn_ca (goodIn_g _ [674, 1, 1, 1, 1, 0, 3, 676, 1, 1, 0, 17, 0, 16, 694, 1, 1, 1, 1, 1, 1, 1, 27, 1, 1, 1, 1, 1, 1, 1, 1, 1, 1, 1] rfl (by decide +kernel)) xgL0) xgL5
set_option maxRecDepth 20000 in
theorem gL_law_L_shownShare : GoodIn wsL_law (va_wsS RL 212 yL_shownShare wsL_shownShare) := goodIn_app (goodIn_g _ [672, 1, 0, 93] rfl (by decide +kernel)) ggL_law_L_shownShare
set_option maxRecDepth 20000 in
theorem ggL_law_X4_shownShare : GoodIn wsL_law wsX4_shownShare := goodIn_ca (goodIn_g _ [685, 0, 115, 1, 0, 75, 48, 1, 1, 0, 6, 120, 592, 1, 1, 1, 1, 1, 1, 1, 1, 1, 1, 1, 1, 1, 1, 1, 1, 1, 1, 1, 1, 1] rfl (by decide +kernel)) xgL0
set_option maxRecDepth 20000 in
theorem gL_law_X4_shownShare : GoodIn wsL_law (wsV RL 215 RX4 yX4_shownShare wsX4_shownShare) := goodIn_app (goodIn_g _ [682, 1, 1, 0, 6] rfl (by decide +kernel)) ggL_law_X4_shownShare
set_option maxRecDepth 20000 in
theorem ggL_law_L_meanWear : GoodIn wsL_law wsL_meanWear := goodIn_ca (goodIn_ca (goodIn_g _ [688, 0, 675, 14, 1, 1, 0, 3, 689, 0, 680, 1, 0, 17, 676, 0, 635, 1, 1, 0, 16, 622, 1, 1, 0, 29, 612, 0, 49, 661, 1, 1, 1, 1, 1, 1, 1, 27, 1, 1, 1, 1, 1, 1, 1, 1, 1, 1, 1] rfl (by decide +kernel)) xgL0) xgL5
set_option maxRecDepth 20000 in
theorem gL_law_L_meanWear : GoodIn wsL_law (va_wsS RL 216 yL_meanWear wsL_meanWear) := goodIn_app (goodIn_g _ [686, 1, 0, 93] rfl (by decide +kernel)) ggL_law_L_meanWear
set_option maxRecDepth 20000 in
theorem ggL_law_X4_meanWear : GoodIn wsL_law wsX4_meanWear := goodIn_ca (goodIn_g _ [697, 0, 115, 1, 0, 80, 43, 1, 1, 0, 6, 120, 592, 1, 1, 1, 1, 1, 1, 1, 1, 1, 1, 1, 1, 1, 1, 1, 1, 1, 1, 1, 1, 1] rfl (by decide +kernel)) xgL0
set_option maxRecDepth 20000 in
theorem gL_law_X4_meanWear : GoodIn wsL_law (wsV RL 218 RX4 yX4_meanWear wsX4_meanWear) := goodIn_app (goodIn_g _ [694, 1, 1, 0, 6] rfl (by decide +kernel)) ggL_law_X4_meanWear
set_option maxRecDepth 20000 in
theorem ggL_law_X3_isSound : GoodIn wsL_law wsX3_isSound := goodIn_ca (goodIn_g _ [701, 0, 17, 0, 16, 11, 364, 1, 1, 0, 31, 363, 0, 62, 1, 639, 1, 1, 0, 29, 676, 0, 48, 1, 0, 44, 127, 0, 3, 169, 351, 1, 1, 1, 1, 1, 1, 96, 1, 1, 1, 0, 54, 0, 53, 657, 1, 1, 1, 1, 1, 1, 1, 27, 1, 1, 1, 1, 1, 1, 1, 1, 1, 1, 1, 1, 1, 1, 1, 1, 1, 1, 1, 1] rfl (by decide +kernel)) xgL0
set_option maxRecDepth 20000 in
theorem gL_law_X3_isSound : GoodIn wsL_law (wsV RL 219 RX3 yX3_isSound wsX3_isSound) := goodIn_app (goodIn_g _ [698, 1, 1, 0, 3] rfl (by decide +kernel)) ggL_law_X3_isSound
set_option maxRecDepth 20000 in
theorem ggL_law_X4_isSound : GoodIn wsL_law wsX4_isSound := goodIn_g _ [709, 0, 115, 603, 1, 1, 1, 1, 1, 1, 1, 1, 1, 1, 1, 1, 1, 1, 1, 1, 1, 1, 1, 1, 1] rfl (by decide +kernel)
set_option maxRecDepth 20000 in
theorem gL_law_X4_isSound : GoodIn wsL_law (wsV RL 223 RX4 yX4_isSound wsX4_isSound) := goodIn_app (goodIn_g _ [706, 1, 1, 0, 6] rfl (by decide +kernel)) ggL_law_X4_isSound
