set_option maxRecDepth 20000 in
theorem ggX0_canWipe_X3_bitOf : GoodIn wsX0_canWipe wsX3_bitOf := goodIn_g _ [7] rfl (by decide +kernel)
set_option maxRecDepth 20000 in
theorem gX0_canWipe_X3_bitOf_n57 : GoodIn wsX0_canWipe (wsX3_bitOf) := ggX0_canWipe_X3_bitOf
set_option maxRecDepth 20000 in
theorem ggX0_canWipe_J6_bitCount_0f7a4 : GoodIn wsX0_canWipe wsJ6_bitCount_0f7a4 := goodIn_g _ [11, 1, 1, 1] rfl (by decide +kernel)
set_option maxRecDepth 20000 in
theorem gX0_canWipe_J6_bitCount_0f7a4 : GoodIn wsX0_canWipe (va_wsS RX0 60 yJ6_bitCount_0f7a4 wsJ6_bitCount_0f7a4) := goodIn_app (goodIn_of _ (by decide +kernel)) ggX0_canWipe_J6_bitCount_0f7a4
set_option maxRecDepth 20000 in
theorem ggX0_wipe_X0_change : GoodIn wsX0_wipe wsX0_change := goodIn_ca (goodIn_g _ [9, 1, 0, 2, 9, 1, 1, 1, 1, 1, 1, 1, 1, 1, 1, 1, 1, 1, 1, 0, 8, 18, 1, 1, 1, 1, 1, 1, 1, 1, 1, 1, 1, 1, 1, 1, 1, 1] rfl (by decide +kernel)) (goodIn_sub (fun _ h => List.mem_cons_of_mem _ (List.mem_append_right _ h)) (by decide +kernel))
set_option maxRecDepth 20000 in
theorem gX0_wipe_X0_change : GoodIn wsX0_wipe (wsV RX0 66 RX0 yX0_change wsX0_change) := goodIn_app (goodIn_of _ (by decide +kernel)) ggX0_wipe_X0_change
set_option maxRecDepth 20000 in
theorem ggX0_takesUp_X0_bestShift : GoodIn wsX0_takesUp wsX0_bestShift := goodIn_g _ [9, 0, 3, 7, 1, 1, 1, 1, 1, 1, 0, 8, 9, 1, 1, 1, 1, 1, 1, 1, 1, 1, 1, 1, 1, 1, 1, 1, 14, 1, 1, 1, 1, 1, 1, 1, 1, 1, 1, 1] rfl (by decide +kernel)
set_option maxRecDepth 20000 in
theorem gX0_takesUp_X0_bestShift : GoodIn wsX0_takesUp (wsV RX0 75 RX0 yX0_bestShift wsX0_bestShift) := goodIn_app (goodIn_of _ (by decide +kernel)) ggX0_takesUp_X0_bestShift
set_option maxRecDepth 20000 in
theorem ggX0_takesUp_X3_shifted : GoodIn wsX0_takesUp wsX3_shifted := goodIn_g _ [12, 1] rfl (by decide +kernel)
set_option maxRecDepth 20000 in
theorem gX0_takesUp_X3_shifted_n78 : GoodIn wsX0_takesUp (wsX3_shifted) := ggX0_takesUp_X3_shifted
set_option maxRecDepth 20000 in
theorem ggX0_takesUp_X0_change : GoodIn wsX0_takesUp wsX0_change := goodIn_ca (goodIn_g _ [36, 0, 19, 0, 3, 34, 1, 0, 20, 1, 1, 1, 1, 1, 1, 13, 0, 11, 29, 1, 1, 1, 0, 8, 36, 1, 0, 32, 0, 31, 0, 18, 28, 1, 1, 1, 1, 1, 1, 1, 1, 1, 1, 1] rfl (by decide +kernel)) (goodIn_sub (fun _ h => List.mem_cons_of_mem _ (List.mem_append_right _ h)) (by decide +kernel))
set_option maxRecDepth 20000 in
theorem gX0_takesUp_X0_change : GoodIn wsX0_takesUp (wsV RX0 66 RX0 yX0_change wsX0_change) := goodIn_app (goodIn_of _ (by decide +kernel)) ggX0_takesUp_X0_change
set_option maxRecDepth 20000 in
theorem ggX0_bestShift_X3_shifted : GoodIn wsX0_bestShift wsX3_shifted := goodIn_g _ [5, 1] rfl (by decide +kernel)
set_option maxRecDepth 20000 in
theorem gX0_bestShift_X3_shifted_n78 : GoodIn wsX0_bestShift (wsX3_shifted) := ggX0_bestShift_X3_shifted
set_option maxRecDepth 20000 in
theorem ggX0_bestShift_X0_canTurnTo : GoodIn wsX0_bestShift wsX0_canTurnTo := goodIn_g _ [11, 0, 2, 10, 1, 1, 1, 1, 1, 1, 1, 1, 7, 1, 1, 1, 1, 1, 1, 1, 1, 1, 1, 1] rfl (by decide +kernel)
set_option maxRecDepth 20000 in
theorem gX0_bestShift_X0_canTurnTo : GoodIn wsX0_bestShift (wsV RX0 81 RX0 yX0_canTurnTo wsX0_canTurnTo) := goodIn_app (goodIn_of _ (by decide +kernel)) ggX0_bestShift_X0_canTurnTo
set_option maxRecDepth 20000 in
theorem ggX0_bestShift_X0_greatestWearBehind : GoodIn wsX0_bestShift wsX0_greatestWearBehind := goodIn_g _ [24, 1, 1, 1, 1, 1, 1, 1, 1, 1, 1, 1, 1, 1, 1] rfl (by decide +kernel)
set_option maxRecDepth 20000 in
theorem gX0_bestShift_X0_greatestWearBehind : GoodIn wsX0_bestShift (wsV RX0 85 RX0 yX0_greatestWearBehind wsX0_greatestWearBehind) := goodIn_app (goodIn_of _ (by decide +kernel)) ggX0_bestShift_X0_greatestWearBehind
set_option maxRecDepth 20000 in
theorem ggX0_bestShift_J6_bitCount_0f7a4 : GoodIn wsX0_bestShift wsJ6_bitCount_0f7a4 := goodIn_g _ [17, 1, 1, 1] rfl (by decide +kernel)
set_option maxRecDepth 20000 in
theorem gX0_bestShift_J6_bitCount_0f7a4 : GoodIn wsX0_bestShift (va_wsS RX0 60 yJ6_bitCount_0f7a4 wsJ6_bitCount_0f7a4) := goodIn_app (goodIn_of _ (by decide +kernel)) ggX0_bestShift_J6_bitCount_0f7a4
set_option maxRecDepth 20000 in
theorem ggX0_canTurnTo_J6_bitCount_0f7a4 : GoodIn wsX0_canTurnTo wsJ6_bitCount_0f7a4 := goodIn_g _ [8, 1, 1, 1] rfl (by decide +kernel)
set_option maxRecDepth 20000 in
theorem gX0_canTurnTo_J6_bitCount_0f7a4 : GoodIn wsX0_canTurnTo (va_wsS RX0 60 yJ6_bitCount_0f7a4 wsJ6_bitCount_0f7a4) := goodIn_app (goodIn_of _ (by decide +kernel)) ggX0_canTurnTo_J6_bitCount_0f7a4
set_option maxRecDepth 20000 in
theorem ggX0_change_J6_bitCount_0f7a4 : GoodIn wsX0_change wsJ6_bitCount_0f7a4 := goodIn_g _ [9, 1, 1, 1] rfl (by decide +kernel)
set_option maxRecDepth 20000 in
theorem gX0_change_J6_bitCount_0f7a4 : GoodIn wsX0_change (va_wsS RX0 60 yJ6_bitCount_0f7a4 wsJ6_bitCount_0f7a4) := goodIn_app (goodIn_of _ (by decide +kernel)) ggX0_change_J6_bitCount_0f7a4
set_option maxRecDepth 20000 in
theorem ggX0_change_X3_bitOf : GoodIn wsX0_change wsX3_bitOf := goodIn_g _ [15] rfl (by decide +kernel)
set_option maxRecDepth 20000 in
theorem gX0_change_X3_bitOf_n57 : GoodIn wsX0_change (wsX3_bitOf) := ggX0_change_X3_bitOf
set_option maxRecDepth 20000 in
theorem ggX0_change_X0_wearOut : GoodIn wsX0_change wsX0_wearOut := goodIn_ca (goodIn_g _ [20, 1, 1, 1, 1, 1, 1, 1, 1, 1, 1, 1, 1, 1, 1, 1, 1] rfl (by decide +kernel)) (goodIn_sub (fun _ h => List.mem_cons_of_mem _ (List.mem_append_right _ h)) (by decide +kernel))
set_option maxRecDepth 20000 in
theorem gX0_change_X0_wearOut : GoodIn wsX0_change (wsV RX0 88 RX0 yX0_wearOut wsX0_wearOut) := goodIn_app (goodIn_of _ (by decide +kernel)) ggX0_change_X0_wearOut
set_option maxRecDepth 20000 in
theorem ggX1_isQueuedIn_X3_bitOf : GoodIn wsX1_isQueuedIn wsX3_bitOf := goodIn_g _ [5] rfl (by decide +kernel)
set_option maxRecDepth 20000 in
theorem gX1_isQueuedIn_X3_bitOf_n41 : GoodIn wsX1_isQueuedIn (wsX3_bitOf) := ggX1_isQueuedIn_X3_bitOf
set_option maxRecDepth 20000 in
theorem ggX1_isQueuedIn_X1_isOver : GoodIn wsX1_isQueuedIn wsX1_isOver := goodIn_g _ [10, 1, 1, 1, 1, 1, 1, 1, 1, 1, 1] rfl (by decide +kernel)
set_option maxRecDepth 20000 in
theorem gX1_isQueuedIn_X1_isOver : GoodIn wsX1_isQueuedIn (wsV RX1 45 RX1 yX1_isOver wsX1_isOver) := goodIn_app (goodIn_of _ (by decide +kernel)) ggX1_isQueuedIn_X1_isOver
set_option maxRecDepth 20000 in
theorem ggX1_canHaveMade_X3_shifted : GoodIn wsX1_canHaveMade wsX3_shifted := goodIn_g _ [5, 1] rfl (by decide +kernel)
set_option maxRecDepth 20000 in
theorem gX1_canHaveMade_X3_shifted_n49 : GoodIn wsX1_canHaveMade (wsX3_shifted) := ggX1_canHaveMade_X3_shifted
set_option maxRecDepth 20000 in
theorem ggX2_write_X2_find : GoodIn wsX2_write wsX2_find := goodIn_ca (goodIn_g _ [10, 0, 2, 1, 1, 7, 1, 1, 1] rfl (by decide +kernel)) (goodIn_sub (fun _ h => List.mem_cons_of_mem _ (List.mem_append_right _ h)) (by decide +kernel))
set_option maxRecDepth 20000 in
theorem gX2_write_X2_find : GoodIn wsX2_write (wsV RX2 25 RX2 yX2_find wsX2_find) := goodIn_app (goodIn_of _ (by decide +kernel)) ggX2_write_X2_find
set_option maxRecDepth 20000 in
theorem ggX2_peopleOf_X2_find : GoodIn wsX2_peopleOf wsX2_find := goodIn_ca (goodIn_g _ [7, 1, 1, 1, 1, 1, 1, 1] rfl (by decide +kernel)) (goodIn_sub (fun _ h => List.mem_cons_of_mem _ (List.mem_append_right _ h)) (by decide +kernel))
set_option maxRecDepth 20000 in
theorem gX2_peopleOf_X2_find : GoodIn wsX2_peopleOf (wsV RX2 25 RX2 yX2_find wsX2_find) := goodIn_app (goodIn_of _ (by decide +kernel)) ggX2_peopleOf_X2_find
set_option maxRecDepth 20000 in
theorem ggX3_init_X2_init : GoodIn wsX3_init wsX2_init := goodIn_g _ [23, 1, 0, 3, 1, 21, 1, 1, 1, 1, 37, 1, 1, 1] rfl (by decide +kernel)
set_option maxRecDepth 20000 in
theorem gX3_init_X2_init_n33 : GoodIn wsX3_init (wsX2_init) := ggX3_init_X2_init
set_option maxRecDepth 20000 in
theorem ggX3_init_X0_init : GoodIn wsX3_init wsX0_init := goodIn_g _ [31, 1, 0, 3, 1, 29, 1, 1, 1, 1, 1, 0, 25, 14, 1, 1, 1, 1, 1, 26, 1, 1, 1, 1, 1, 1, 1, 1, 1, 1, 1] rfl (by decide +kernel)
set_option maxRecDepth 20000 in
theorem gX3_init_X0_init_n44 : GoodIn wsX3_init (wsX0_init) := ggX3_init_X0_init
set_option maxRecDepth 20000 in
theorem ggX3_init_X1_init : GoodIn wsX3_init wsX1_init := goodIn_g _ [47, 1, 0, 3, 1, 21, 24, 1, 1, 1, 1, 1, 1, 1, 1, 25, 1, 1, 1, 1, 1, 1, 1, 1] rfl (by decide +kernel)
set_option maxRecDepth 20000 in
theorem gX3_init_X1_init : GoodIn wsX3_init (wsX1_init) := ggX3_init_X1_init
set_option maxRecDepth 20000 in
theorem ggX3_addBoard_X3_checkDistrict : GoodIn wsX3_addBoard wsX3_checkDistrict := goodIn_ca (goodIn_g _ [11, 0, 2, 1] rfl (by decide +kernel)) (goodIn_sub (fun _ h => List.mem_cons_of_mem _ (List.mem_append_left _ (List.mem_append_right _ h))) (by decide +kernel))
set_option maxRecDepth 20000 in
theorem gX3_addBoard_X3_checkDistrict : GoodIn wsX3_addBoard (va_wsS RX3 48 yX3_checkDistrict wsX3_checkDistrict) := goodIn_app (goodIn_of _ (by decide +kernel)) ggX3_addBoard_X3_checkDistrict
set_option maxRecDepth 20000 in
theorem ggX3_addBoard_X0_settle : GoodIn wsX3_addBoard wsX0_settle := goodIn_g _ [16, 1, 1, 9, 1, 1, 1, 1, 1, 1, 1, 1, 1, 1, 1] rfl (by decide +kernel)
set_option maxRecDepth 20000 in
theorem gX3_addBoard_X0_settle : GoodIn wsX3_addBoard (wsV RX3 63 RX0 yX0_settle wsX0_settle) := goodIn_app (goodIn_of _ (by decide +kernel)) ggX3_addBoard_X0_settle
set_option maxRecDepth 20000 in
theorem ggX3_charge_X3_boardAt : GoodIn wsX3_charge wsX3_boardAt := goodIn_ca (goodIn_g _ [6, 1, 1, 1, 1, 13, 1, 1, 1, 1, 1, 1, 1] rfl (by decide +kernel)) (goodIn_sub (fun _ h => List.mem_cons_of_mem _ (List.mem_append_right _ h)) (by decide +kernel))
set_option maxRecDepth 20000 in
theorem gX3_charge_X3_boardAt : GoodIn wsX3_charge (wsV RX3 69 RX3 yX3_boardAt wsX3_boardAt) := goodIn_app (goodIn_of _ (by decide +kernel)) ggX3_charge_X3_boardAt
set_option maxRecDepth 20000 in
theorem ggX3_cell_X3_boardAt : GoodIn wsX3_cell wsX3_boardAt := goodIn_ca (goodIn_g _ [6, 1, 1, 1, 1, 19, 1, 1, 1, 1, 1, 1, 1] rfl (by decide +kernel)) (goodIn_sub (fun _ h => List.mem_cons_of_mem _ (List.mem_append_right _ h)) (by decide +kernel))
set_option maxRecDepth 20000 in
theorem gX3_cell_X3_boardAt : GoodIn wsX3_cell (wsV RX3 69 RX3 yX3_boardAt wsX3_boardAt) := goodIn_app (goodIn_of _ (by decide +kernel)) ggX3_cell_X3_boardAt
set_option maxRecDepth 20000 in
theorem ggX3_cell_X3_cellAt : GoodIn wsX3_cell wsX3_cellAt := goodIn_ca (goodIn_g _ [13, 0, 7, 1] rfl (by decide +kernel)) (goodIn_sub (fun _ h => List.mem_cons_of_mem _ (List.mem_append_right _ h)) (by decide +kernel))
set_option maxRecDepth 20000 in
theorem gX3_cell_X3_cellAt : GoodIn wsX3_cell (va_wsS RX3 79 yX3_cellAt wsX3_cellAt) := goodIn_app (goodIn_of _ (by decide +kernel)) ggX3_cell_X3_cellAt
set_option maxRecDepth 20000 in
theorem ggX3_cell_X3_bitOf : GoodIn wsX3_cell wsX3_bitOf := goodIn_g _ [16] rfl (by decide +kernel)
set_option maxRecDepth 20000 in
theorem gX3_cell_X3_bitOf : GoodIn wsX3_cell (va_wsS RX3 83 yX3_bitOf wsX3_bitOf) := goodIn_app (goodIn_of _ (by decide +kernel)) ggX3_cell_X3_bitOf
set_option maxRecDepth 20000 in
theorem ggX3_wear_X3_boardAt : GoodIn wsX3_wear wsX3_boardAt := goodIn_ca (goodIn_g _ [6, 1, 1, 1, 1, 10, 1, 1, 1, 1, 1, 1, 1] rfl (by decide +kernel)) (goodIn_sub (fun _ h => List.mem_cons_of_mem _ (List.mem_append_left _ (List.mem_append_right _ h))) (by decide +kernel))
set_option maxRecDepth 20000 in
theorem gX3_wear_X3_boardAt : GoodIn wsX3_wear (wsV RX3 69 RX3 yX3_boardAt wsX3_boardAt) := goodIn_app (goodIn_of _ (by decide +kernel)) ggX3_wear_X3_boardAt
set_option maxRecDepth 20000 in
theorem ggX3_wear_X3_cellAt : GoodIn wsX3_wear wsX3_cellAt := goodIn_ca (goodIn_g _ [13, 0, 7, 1] rfl (by decide +kernel)) (goodIn_sub (fun _ h => List.mem_cons_of_mem _ (List.mem_append_left _ (List.mem_append_right _ h))) (by decide +kernel))
set_option maxRecDepth 20000 in
theorem gX3_wear_X3_cellAt : GoodIn wsX3_wear (va_wsS RX3 79 yX3_cellAt wsX3_cellAt) := goodIn_app (goodIn_of _ (by decide +kernel)) ggX3_wear_X3_cellAt
set_option maxRecDepth 20000 in
theorem ggX3_wear_X0_wearOf : GoodIn wsX3_wear wsX0_wearOf := goodIn_ca (goodIn_g _ [18, 1, 9, 1, 1, 1, 1, 1, 1, 1, 1, 1, 1, 1] rfl (by decide +kernel)) (goodIn_sub (fun _ h => List.mem_cons_of_mem _ (List.mem_append_right _ h)) (by decide +kernel))
set_option maxRecDepth 20000 in
theorem gX3_wear_X0_wearOf : GoodIn wsX3_wear (wsV RX3 86 RX0 yX0_wearOf wsX0_wearOf) := goodIn_app (goodIn_of _ (by decide +kernel)) ggX3_wear_X0_wearOf
set_option maxRecDepth 20000 in
theorem ggX3_shows_X3_boardAt : GoodIn wsX3_shows wsX3_boardAt := goodIn_ca (goodIn_g _ [6, 1, 1, 1, 1, 22, 1, 1, 1, 1, 1, 1, 1] rfl (by decide +kernel)) (goodIn_sub (fun _ h => List.mem_cons_of_mem _ (List.mem_append_right _ h)) (by decide +kernel))
set_option maxRecDepth 20000 in
theorem gX3_shows_X3_boardAt : GoodIn wsX3_shows (wsV RX3 69 RX3 yX3_boardAt wsX3_boardAt) := goodIn_app (goodIn_of _ (by decide +kernel)) ggX3_shows_X3_boardAt
set_option maxRecDepth 20000 in
theorem ggX3_shift_X3_boardAt : GoodIn wsX3_shift wsX3_boardAt := goodIn_ca (goodIn_g _ [6, 1, 1, 1, 1, 13, 1, 1, 1, 1, 1, 1, 1] rfl (by decide +kernel)) (goodIn_sub (fun _ h => List.mem_cons_of_mem _ (List.mem_append_right _ h)) (by decide +kernel))
set_option maxRecDepth 20000 in
theorem gX3_shift_X3_boardAt : GoodIn wsX3_shift (wsV RX3 69 RX3 yX3_boardAt wsX3_boardAt) := goodIn_app (goodIn_of _ (by decide +kernel)) ggX3_shift_X3_boardAt
set_option maxRecDepth 20000 in
theorem ggX3_sleeps_X3_boardAt : GoodIn wsX3_sleeps wsX3_boardAt := goodIn_ca (goodIn_g _ [6, 1, 1, 1, 1, 13, 1, 1, 1, 1, 1, 1, 1] rfl (by decide +kernel)) (goodIn_sub (fun _ h => List.mem_cons_of_mem _ (List.mem_append_right _ h)) (by decide +kernel))
set_option maxRecDepth 20000 in
theorem gX3_sleeps_X3_boardAt : GoodIn wsX3_sleeps (wsV RX3 69 RX3 yX3_boardAt wsX3_boardAt) := goodIn_app (goodIn_of _ (by decide +kernel)) ggX3_sleeps_X3_boardAt
set_option maxRecDepth 20000 in
theorem ggX3_post_X3_take : GoodIn wsX3_post wsX3_take := goodIn_ca (goodIn_g _ [8, 1, 1, 1, 1, 1, 1, 1, 1, 1, 1, 1, 1, 1, 1, 10, 1, 1, 1, 1, 1, 1, 1, 0, 23, 1, 1, 1, 1, 1, 1, 1, 1] rfl (by decide +kernel)) (goodIn_sub (fun _ h => List.mem_cons_of_mem _ (List.mem_append_right _ h)) (by decide +kernel))
set_option maxRecDepth 20000 in
theorem gX3_post_X3_take : GoodIn wsX3_post (wsV RX3 110 RX3 yX3_take wsX3_take) := goodIn_app (goodIn_of _ (by decide +kernel)) ggX3_post_X3_take
set_option maxRecDepth 20000 in
theorem ggX3_queue_X3_noticeAt : GoodIn wsX3_queue wsX3_noticeAt := goodIn_ca (goodIn_g _ [9, 1, 1, 1, 1, 32, 1, 1, 1, 1, 1, 1, 1] rfl (by decide +kernel)) (goodIn_sub (fun _ h => List.mem_cons_of_mem _ (List.mem_append_left _ (List.mem_append_right _ h))) (by decide +kernel))
set_option maxRecDepth 20000 in
theorem gX3_queue_X3_noticeAt : GoodIn wsX3_queue (wsV RX3 114 RX3 yX3_noticeAt wsX3_noticeAt) := goodIn_app (goodIn_of _ (by decide +kernel)) ggX3_queue_X3_noticeAt
set_option maxRecDepth 20000 in
theorem ggX3_queue_X3_checkDistrict : GoodIn wsX3_queue wsX3_checkDistrict := goodIn_ca (goodIn_g _ [16, 1, 1] rfl (by decide +kernel)) (goodIn_sub (fun _ h => List.mem_cons_of_mem _ (List.mem_append_right _ h)) (by decide +kernel))
set_option maxRecDepth 20000 in
theorem gX3_queue_X3_checkDistrict : GoodIn wsX3_queue (va_wsS RX3 48 yX3_checkDistrict wsX3_checkDistrict) := goodIn_app (goodIn_of _ (by decide +kernel)) ggX3_queue_X3_checkDistrict
set_option maxRecDepth 20000 in
theorem ggX3_queue_X1_isQueuedIn : GoodIn wsX3_queue wsX1_isQueuedIn := goodIn_g _ [23, 1, 1, 0, 8, 18, 1, 1, 1, 0, 22, 8, 1, 5, 1, 1, 1, 1, 1, 1, 1, 1] rfl (by decide +kernel)
set_option maxRecDepth 20000 in
theorem gX3_queue_X1_isQueuedIn : GoodIn wsX3_queue (wsV RX3 129 RX1 yX1_isQueuedIn wsX1_isQueuedIn) := goodIn_app (goodIn_of _ (by decide +kernel)) ggX3_queue_X1_isQueuedIn
set_option maxRecDepth 20000 in
theorem ggX3_queue_X1_putInto : GoodIn wsX3_queue wsX1_putInto := goodIn_g _ [35, 0, 24, 12, 1, 1, 1, 1, 1, 1, 1, 1] rfl (by decide +kernel)
set_option maxRecDepth 20000 in
theorem gX3_queue_X1_putInto : GoodIn wsX3_queue (wsV RX3 133 RX1 yX1_putInto wsX1_putInto) := goodIn_app (goodIn_of _ (by decide +kernel)) ggX3_queue_X1_putInto
set_option maxRecDepth 20000 in
theorem ggX3_takeBack_X3_noticeAt : GoodIn wsX3_takeBack wsX3_noticeAt := goodIn_ca (goodIn_g _ [11, 1, 1, 1, 1, 7, 1, 1, 1, 1, 1, 1, 1] rfl (by decide +kernel)) (goodIn_sub (fun _ h => List.mem_cons_of_mem _ (List.mem_append_right _ h)) (by decide +kernel))
set_option maxRecDepth 20000 in
theorem gX3_takeBack_X3_noticeAt : GoodIn wsX3_takeBack (wsV RX3 114 RX3 yX3_noticeAt wsX3_noticeAt) := goodIn_app (goodIn_of _ (by decide +kernel)) ggX3_takeBack_X3_noticeAt
set_option maxRecDepth 20000 in
theorem ggX3_takeBack_X3_boardsThatShow : GoodIn wsX3_takeBack wsX3_boardsThatShow := goodIn_g _ [19, 1, 1, 1, 1, 1, 1, 1, 1, 1, 1, 10, 1, 1, 1, 1, 1, 1, 1, 1, 1, 1, 1] rfl (by decide +kernel)
set_option maxRecDepth 20000 in
theorem gX3_takeBack_X3_boardsThatShow : GoodIn wsX3_takeBack (wsV RX3 143 RX3 yX3_boardsThatShow wsX3_boardsThatShow) := goodIn_app (goodIn_of _ (by decide +kernel)) ggX3_takeBack_X3_boardsThatShow
set_option maxRecDepth 20000 in
theorem ggX3_mend_X3_noticeAt : GoodIn wsX3_mend wsX3_noticeAt := goodIn_ca (goodIn_g _ [18, 1, 1, 1, 1, 52, 1, 1, 1, 1, 1, 1, 1] rfl (by decide +kernel)) (goodIn_sub (fun _ h => List.mem_cons_of_mem _ (List.mem_append_left _ (List.mem_append_left _ (List.mem_append_right _ h)))) (by decide +kernel))
set_option maxRecDepth 20000 in
theorem gX3_mend_X3_noticeAt : GoodIn wsX3_mend (wsV RX3 114 RX3 yX3_noticeAt wsX3_noticeAt) := goodIn_app (goodIn_of _ (by decide +kernel)) ggX3_mend_X3_noticeAt
set_option maxRecDepth 20000 in
theorem ggX3_mend_X1_isOver : GoodIn wsX3_mend wsX1_isOver := goodIn_g _ [27, 1, 37, 1, 1, 1, 1, 1, 1, 1, 1] rfl (by decide +kernel)
set_option maxRecDepth 20000 in
theorem gX3_mend_X1_isOver : GoodIn wsX3_mend (wsV RX3 152 RX1 yX1_isOver wsX1_isOver) := goodIn_app (goodIn_of _ (by decide +kernel)) ggX3_mend_X1_isOver
set_option maxRecDepth 20000 in
theorem ggX3_mend_X3_take : GoodIn wsX3_mend wsX3_take := goodIn_ca (goodIn_g _ [32, 1, 1, 0, 21, 1, 13, 1, 1, 1, 0, 26, 13, 1, 1, 1, 0, 28, 46, 1, 1, 1, 1, 1, 1, 1, 0, 65, 1, 1, 1, 1, 1, 1, 1, 1] rfl (by decide +kernel)) (goodIn_sub (fun _ h => List.mem_cons_of_mem _ (List.mem_append_left _ (List.mem_append_right _ h))) (by decide +kernel))
set_option maxRecDepth 20000 in
theorem gX3_mend_X3_take : GoodIn wsX3_mend (wsV RX3 110 RX3 yX3_take wsX3_take) := goodIn_app (goodIn_of _ (by decide +kernel)) ggX3_mend_X3_take
set_option maxRecDepth 20000 in
theorem ggX3_mend_X3_queueWhereRead : GoodIn wsX3_mend wsX3_queueWhereRead := goodIn_ca (goodIn_g _ [46, 0, 6, 41, 1, 1, 0, 26, 24, 1, 1, 0, 17, 36, 1, 0, 24, 1, 2, 1, 27, 1, 1, 1, 1, 1, 1, 1, 1, 1, 10, 1, 1, 1, 1, 1, 1, 1, 0, 65, 1, 1, 1, 1, 1, 1, 1, 1, 9, 1, 1, 1, 1, 1, 1, 1, 1, 1, 1, 1] rfl (by decide +kernel)) (goodIn_sub (fun _ h => List.mem_cons_of_mem _ (List.mem_append_right _ h)) (by decide +kernel))
set_option maxRecDepth 20000 in
theorem gX3_mend_X3_queueWhereRead : GoodIn wsX3_mend (wsV RX3 172 RX3 yX3_queueWhereRead wsX3_queueWhereRead) := goodIn_app (goodIn_of _ (by decide +kernel)) ggX3_mend_X3_queueWhereRead
set_option maxRecDepth 20000 in
theorem ggX3_deny_X3_checkDistrict : GoodIn wsX3_deny wsX3_checkDistrict := goodIn_ca (goodIn_g _ [8, 0, 2, 1] rfl (by decide +kernel)) (goodIn_sub (fun _ h => List.mem_cons_of_mem _ (List.mem_append_left _ (List.mem_append_right _ h))) (by decide +kernel))
set_option maxRecDepth 20000 in
theorem gX3_deny_X3_checkDistrict : GoodIn wsX3_deny (va_wsS RX3 48 yX3_checkDistrict wsX3_checkDistrict) := goodIn_app (goodIn_of _ (by decide +kernel)) ggX3_deny_X3_checkDistrict
set_option maxRecDepth 20000 in
theorem ggX3_deny_X3_take : GoodIn wsX3_deny wsX3_take := goodIn_ca (goodIn_g _ [12, 1, 1, 1, 1, 1, 1, 1, 1, 1, 1, 1, 1, 1, 1, 6, 1, 1, 1, 1, 1, 1, 1, 1, 1, 1, 1, 1, 1, 1, 1, 1] rfl (by decide +kernel)) (goodIn_sub (fun _ h => List.mem_cons_of_mem _ (List.mem_append_right _ h)) (by decide +kernel))
set_option maxRecDepth 20000 in
theorem gX3_deny_X3_take : GoodIn wsX3_deny (wsV RX3 110 RX3 yX3_take wsX3_take) := goodIn_app (goodIn_of _ (by decide +kernel)) ggX3_deny_X3_take
set_option maxRecDepth 20000 in
theorem ggX3_deny_X1_putInto : GoodIn wsX3_deny wsX1_putInto := goodIn_g _ [30, 1, 9, 1, 1, 1, 1, 1, 1, 1, 1] rfl (by decide +kernel)
set_option maxRecDepth 20000 in
theorem gX3_deny_X1_putInto : GoodIn wsX3_deny (wsV RX3 133 RX1 yX1_putInto wsX1_putInto) := goodIn_app (goodIn_of _ (by decide +kernel)) ggX3_deny_X1_putInto
set_option maxRecDepth 20000 in
theorem ggX3_queued_X3_checkDistrict : GoodIn wsX3_queued wsX3_checkDistrict := goodIn_ca (goodIn_g _ [8, 1, 1] rfl (by decide +kernel)) (goodIn_sub (fun _ h => List.mem_cons_of_mem _ (List.mem_append_right _ h)) (by decide +kernel))
set_option maxRecDepth 20000 in
theorem gX3_queued_X3_checkDistrict : GoodIn wsX3_queued (va_wsS RX3 48 yX3_checkDistrict wsX3_checkDistrict) := goodIn_app (goodIn_of _ (by decide +kernel)) ggX3_queued_X3_checkDistrict
set_option maxRecDepth 20000 in
theorem ggX3_queued_X1_isQueuedIn : GoodIn wsX3_queued wsX1_isQueuedIn := goodIn_g _ [15, 1, 1, 0, 7, 11, 1, 1, 1, 0, 14, 8, 1, 9, 1, 1, 1, 1, 1, 1, 1, 1] rfl (by decide +kernel)
set_option maxRecDepth 20000 in
theorem gX3_queued_X1_isQueuedIn : GoodIn wsX3_queued (wsV RX3 129 RX1 yX1_isQueuedIn wsX1_isQueuedIn) := goodIn_app (goodIn_of _ (by decide +kernel)) ggX3_queued_X1_isQueuedIn
set_option maxRecDepth 20000 in
theorem ggX3_queuedAt_X3_checkDistrict : GoodIn wsX3_queuedAt wsX3_checkDistrict := goodIn_ca (goodIn_g _ [10, 1, 1] rfl (by decide +kernel)) (goodIn_sub (fun _ h => List.mem_cons_of_mem _ (List.mem_append_right _ h)) (by decide +kernel))
set_option maxRecDepth 20000 in
theorem gX3_queuedAt_X3_checkDistrict : GoodIn wsX3_queuedAt (va_wsS RX3 48 yX3_checkDistrict wsX3_checkDistrict) := goodIn_app (goodIn_of _ (by decide +kernel)) ggX3_queuedAt_X3_checkDistrict
set_option maxRecDepth 20000 in
theorem ggX3_queuedAt_X1_isQueuedIn : GoodIn wsX3_queuedAt wsX1_isQueuedIn := goodIn_g _ [17, 1, 1, 0, 9, 11, 1, 1, 1, 0, 16, 8, 1, 9, 1, 1, 1, 1, 1, 1, 1, 1] rfl (by decide +kernel)
set_option maxRecDepth 20000 in
theorem gX3_queuedAt_X1_isQueuedIn : GoodIn wsX3_queuedAt (wsV RX3 129 RX1 yX1_isQueuedIn wsX1_isQueuedIn) := goodIn_app (goodIn_of _ (by decide +kernel)) ggX3_queuedAt_X1_isQueuedIn
set_option maxRecDepth 20000 in
theorem ggX3_isDue_X3_noticeAt : GoodIn wsX3_isDue wsX3_noticeAt := goodIn_ca (goodIn_g _ [7, 1, 1, 1, 1, 8, 1, 1, 1, 1, 1, 1, 1] rfl (by decide +kernel)) (goodIn_sub (fun _ h => List.mem_cons_of_mem _ (List.mem_append_right _ h)) (by decide +kernel))
set_option maxRecDepth 20000 in
theorem gX3_isDue_X3_noticeAt : GoodIn wsX3_isDue (wsV RX3 114 RX3 yX3_noticeAt wsX3_noticeAt) := goodIn_app (goodIn_of _ (by decide +kernel)) ggX3_isDue_X3_noticeAt
set_option maxRecDepth 20000 in
theorem ggX3_isDue_X1_isOf : GoodIn wsX3_isDue wsX1_isOf := goodIn_g _ [16, 1, 1, 9, 1, 1, 1, 1, 1, 1, 1, 1] rfl (by decide +kernel)
set_option maxRecDepth 20000 in
theorem gX3_isDue_X1_isOf : GoodIn wsX3_isDue (wsV RX3 185 RX1 yX1_isOf wsX1_isOf) := goodIn_app (goodIn_of _ (by decide +kernel)) ggX3_isDue_X1_isOf
set_option maxRecDepth 20000 in
theorem ggX3_pass_X3_boardAt : GoodIn wsX3_pass wsX3_boardAt := goodIn_ca (goodIn_g _ [10, 1, 1, 1, 1, 35, 1, 1, 1, 1, 1, 1, 1] rfl (by decide +kernel)) (goodIn_sub (fun _ h => List.mem_cons_of_mem _ (List.mem_append_right _ h)) (by decide +kernel))
set_option maxRecDepth 20000 in
theorem gX3_pass_X3_boardAt : GoodIn wsX3_pass (wsV RX3 69 RX3 yX3_boardAt wsX3_boardAt) := goodIn_app (goodIn_of _ (by decide +kernel)) ggX3_pass_X3_boardAt
set_option maxRecDepth 20000 in
theorem ggX3_pass_X2_write : GoodIn wsX3_pass wsX2_write := goodIn_ca (goodIn_g _ [19, 1, 1, 1, 1, 1, 1, 1, 0, 18, 9, 30, 1, 1, 1] rfl (by decide +kernel)) (goodIn_sub (fun _ h => List.mem_cons_of_mem _ (List.mem_append_left _ (List.mem_append_right _ h))) (by decide +kernel))
set_option maxRecDepth 20000 in
theorem gX3_pass_X2_write : GoodIn wsX3_pass (wsV RX3 194 RX2 yX2_write wsX2_write) := goodIn_app (goodIn_of _ (by decide +kernel)) ggX3_pass_X2_write
set_option maxRecDepth 20000 in
theorem ggX3_readers_X3_noticeAt : GoodIn wsX3_readers wsX3_noticeAt := goodIn_ca (goodIn_g _ [6, 1, 1, 1, 1, 12, 1, 1, 1, 1, 1, 1, 1] rfl (by decide +kernel)) (goodIn_sub (fun _ h => List.mem_cons_of_mem _ (List.mem_append_left _ (List.mem_append_left _ (List.mem_append_right _ h)))) (by decide +kernel))
set_option maxRecDepth 20000 in
theorem gX3_readers_X3_noticeAt : GoodIn wsX3_readers (wsV RX3 114 RX3 yX3_noticeAt wsX3_noticeAt) := goodIn_app (goodIn_of _ (by decide +kernel)) ggX3_readers_X3_noticeAt
set_option maxRecDepth 20000 in
theorem ggX3_readers_X3_checkDistrict : GoodIn wsX3_readers wsX3_checkDistrict := goodIn_ca (goodIn_g _ [13, 1, 1] rfl (by decide +kernel)) (goodIn_sub (fun _ h => List.mem_cons_of_mem _ (List.mem_append_left _ (List.mem_append_right _ h))) (by decide +kernel))
set_option maxRecDepth 20000 in
theorem gX3_readers_X3_checkDistrict : GoodIn wsX3_readers (va_wsS RX3 48 yX3_checkDistrict wsX3_checkDistrict) := goodIn_app (goodIn_of _ (by decide +kernel)) ggX3_readers_X3_checkDistrict
set_option maxRecDepth 20000 in
theorem ggX3_readers_X3_readersIn : GoodIn wsX3_readers wsX3_readersIn := goodIn_ca (goodIn_g _ [19, 1, 1, 1, 1, 1, 1, 1, 1, 1, 1, 1, 1, 1, 1, 1, 1, 1, 1, 1, 1, 1, 1, 1, 1, 1, 1, 1, 1, 1, 1, 1] rfl (by decide +kernel)) (goodIn_sub (fun _ h => List.mem_cons_of_mem _ (List.mem_append_right _ h)) (by decide +kernel))
set_option maxRecDepth 20000 in
theorem gX3_readers_X3_readersIn : GoodIn wsX3_readers (wsV RX3 198 RX3 yX3_readersIn wsX3_readersIn) := goodIn_app (goodIn_of _ (by decide +kernel)) ggX3_readers_X3_readersIn
set_option maxRecDepth 20000 in
theorem ggX3_readIn_X3_noticeAt : GoodIn wsX3_readIn wsX3_noticeAt := goodIn_ca (goodIn_g _ [7, 1, 1, 1, 1, 14, 1, 1, 1, 1, 1, 1, 1] rfl (by decide +kernel)) (goodIn_sub (fun _ h => List.mem_cons_of_mem _ (List.mem_append_left _ (List.mem_append_right _ h))) (by decide +kernel))
set_option maxRecDepth 20000 in
theorem gX3_readIn_X3_noticeAt : GoodIn wsX3_readIn (wsV RX3 114 RX3 yX3_noticeAt wsX3_noticeAt) := goodIn_app (goodIn_of _ (by decide +kernel)) ggX3_readIn_X3_noticeAt
set_option maxRecDepth 20000 in
theorem ggX3_readIn_X2_peopleOf : GoodIn wsX3_readIn wsX2_peopleOf := goodIn_ca (goodIn_g _ [16, 1, 1, 1, 1, 0, 15, 6, 1, 1, 1, 18, 1, 1, 1] rfl (by decide +kernel)) (goodIn_sub (fun _ h => List.mem_cons_of_mem _ (List.mem_append_right _ h)) (by decide +kernel))
set_option maxRecDepth 20000 in
theorem gX3_readIn_X2_peopleOf : GoodIn wsX3_readIn (wsV RX3 202 RX2 yX2_peopleOf wsX2_peopleOf) := goodIn_app (goodIn_of _ (by decide +kernel)) ggX3_readIn_X2_peopleOf
set_option maxRecDepth 20000 in
theorem ggX3_suspects_X3_checkRumour : GoodIn wsX3_suspects wsX3_checkRumour := goodIn_ca (goodIn_g _ [7, 1, 1, 1, 1, 0, 6, 6] rfl (by decide +kernel)) (goodIn_sub (fun _ h => List.mem_cons_of_mem _ (List.mem_append_left _ (List.mem_append_right _ h))) (by decide +kernel))
set_option maxRecDepth 20000 in
theorem gX3_suspects_X3_checkRumour : GoodIn wsX3_suspects (va_wsS RX3 205 yX3_checkRumour wsX3_checkRumour) := goodIn_app (goodIn_of _ (by decide +kernel)) ggX3_suspects_X3_checkRumour
set_option maxRecDepth 20000 in
theorem ggX3_suspects_X3_isSuspect : GoodIn wsX3_suspects wsX3_isSuspect := goodIn_ca (goodIn_g _ [16, 1, 1, 1, 0, 6, 14, 1, 1, 1, 1, 1, 1, 1, 1, 1, 1, 1, 1, 1, 1, 1, 1, 1, 1, 1, 1, 1, 1, 1, 1, 1, 1, 1, 1, 1, 1, 1, 1, 1, 1, 1, 1, 1, 1, 1, 1] rfl (by decide +kernel)) (goodIn_sub (fun _ h => List.mem_cons_of_mem _ (List.mem_append_right _ h)) (by decide +kernel))
set_option maxRecDepth 20000 in
theorem gX3_suspects_X3_isSuspect : GoodIn wsX3_suspects (wsV RX3 208 RX3 yX3_isSuspect wsX3_isSuspect) := goodIn_app (goodIn_of _ (by decide +kernel)) ggX3_suspects_X3_isSuspect
set_option maxRecDepth 20000 in
theorem ggX3_suspectAt_X3_checkRumour : GoodIn wsX3_suspectAt wsX3_checkRumour := goodIn_ca (goodIn_g _ [9, 1, 1, 1, 1, 0, 8, 6] rfl (by decide +kernel)) (goodIn_sub (fun _ h => List.mem_cons_of_mem _ (List.mem_append_left _ (List.mem_append_right _ h))) (by decide +kernel))
set_option maxRecDepth 20000 in
theorem gX3_suspectAt_X3_checkRumour : GoodIn wsX3_suspectAt (va_wsS RX3 205 yX3_checkRumour wsX3_checkRumour) := goodIn_app (goodIn_of _ (by decide +kernel)) ggX3_suspectAt_X3_checkRumour
set_option maxRecDepth 20000 in
theorem ggX3_suspectAt_X3_isSuspect : GoodIn wsX3_suspectAt wsX3_isSuspect := goodIn_ca (goodIn_g _ [18, 1, 1, 1, 0, 8, 14, 1, 1, 1, 1, 1, 1, 1, 1, 1, 1, 1, 5, 1, 1, 1, 1, 1, 1, 1, 1, 1, 1, 1, 1, 1, 1, 1, 1, 1, 1, 1, 1, 1, 1, 1, 1, 1, 1, 1, 1] rfl (by decide +kernel)) (goodIn_sub (fun _ h => List.mem_cons_of_mem _ (List.mem_append_right _ h)) (by decide +kernel))
set_option maxRecDepth 20000 in
theorem gX3_suspectAt_X3_isSuspect : GoodIn wsX3_suspectAt (wsV RX3 208 RX3 yX3_isSuspect wsX3_isSuspect) := goodIn_app (goodIn_of _ (by decide +kernel)) ggX3_suspectAt_X3_isSuspect
set_option maxRecDepth 20000 in
theorem ggX3_suspectAt_X3_suspectsAhead : GoodIn wsX3_suspectAt wsX3_suspectsAhead := goodIn_ca (goodIn_g _ [37, 0, 4, 1, 14, 1, 1, 0, 8, 14, 1, 1, 0, 15, 1, 1, 1, 7, 1, 1, 1, 1, 1, 1, 1, 1, 5, 1, 1, 1, 1, 1, 1, 1, 13, 1, 1, 1, 1, 1, 1, 1, 1, 0, 46, 1, 1, 1, 1, 1, 1, 1, 1, 1, 1, 1] rfl (by decide +kernel)) (goodIn_sub (fun _ h => List.mem_cons_of_mem _ (List.mem_append_right _ h)) (by decide +kernel))
set_option maxRecDepth 20000 in
theorem gX3_suspectAt_X3_suspectsAhead : GoodIn wsX3_suspectAt (wsV RX3 212 RX3 yX3_suspectsAhead wsX3_suspectsAhead) := goodIn_app (goodIn_of _ (by decide +kernel)) ggX3_suspectAt_X3_suspectsAhead
set_option maxRecDepth 20000 in
theorem ggX3_go_X3_letHourComeTo : GoodIn wsX3_go wsX3_letHourComeTo := goodIn_ca (goodIn_g _ [13, 1, 0, 6, 9, 1, 1, 1, 1, 1, 1, 1, 1, 1, 1, 1, 1, 1, 1, 1, 1, 1, 1, 1, 1, 1, 1, 1, 1, 1, 1, 1, 1, 1, 1, 1, 1, 1, 1, 1, 1, 1, 1, 1, 0, 12, 43, 1, 1, 1, 1, 1, 1, 1, 1, 1, 1, 1, 1, 1, 1, 1, 1, 1, 1, 1, 1, 1, 1, 1, 1, 1, 1, 1, 1, 1, 1, 1, 1, 1, 1, 1, 1, 1, 1, 1, 1, 1, 1, 1, 1, 1, 1, 1, 1, 1, 1, 1, 1, 1, 1, 1, 1, 1, 1, 1, 1, 1, 1, 1, 1, 1] rfl (by decide +kernel)) (goodIn_sub (fun _ h => List.mem_cons_of_mem _ (List.mem_append_right _ h)) (by decide +kernel))
set_option maxRecDepth 20000 in
theorem gX3_go_X3_letHourComeTo : GoodIn wsX3_go (wsV RX3 222 RX3 yX3_letHourComeTo wsX3_letHourComeTo) := goodIn_app (goodIn_of _ (by decide +kernel)) ggX3_go_X3_letHourComeTo
set_option maxRecDepth 20000 in
theorem ggX3_cellAnew_X3_boardAt : GoodIn wsX3_cellAnew wsX3_boardAt := goodIn_ca (goodIn_g _ [6, 1, 1, 1, 1, 14, 1, 1, 1, 1, 1, 1, 1] rfl (by decide +kernel)) (goodIn_sub (fun _ h => List.mem_cons_of_mem _ (List.mem_append_left _ (List.mem_append_right _ h))) (by decide +kernel))
set_option maxRecDepth 20000 in
theorem gX3_cellAnew_X3_boardAt : GoodIn wsX3_cellAnew (wsV RX3 69 RX3 yX3_boardAt wsX3_boardAt) := goodIn_app (goodIn_of _ (by decide +kernel)) ggX3_cellAnew_X3_boardAt
set_option maxRecDepth 20000 in
theorem ggX3_cellAnew_X0_blackAnew : GoodIn wsX3_cellAnew wsX0_blackAnew := goodIn_ca (goodIn_g _ [15, 1, 1, 15, 1, 1, 1, 1, 1, 1, 1, 1, 1, 1, 1] rfl (by decide +kernel)) (goodIn_sub (fun _ h => List.mem_cons_of_mem _ (List.mem_append_right _ h)) (by decide +kernel))
set_option maxRecDepth 20000 in
theorem gX3_cellAnew_X0_blackAnew : GoodIn wsX3_cellAnew (wsV RX3 226 RX0 yX0_blackAnew wsX0_blackAnew) := goodIn_app (goodIn_of _ (by decide +kernel)) ggX3_cellAnew_X0_blackAnew
set_option maxRecDepth 20000 in
theorem ggX3_cellAnew_X3_cellAt : GoodIn wsX3_cellAnew wsX3_cellAt := goodIn_ca (goodIn_g _ [20, 0, 7, 1] rfl (by decide +kernel)) (goodIn_sub (fun _ h => List.mem_cons_of_mem _ (List.mem_append_left _ (List.mem_append_right _ h))) (by decide +kernel))
set_option maxRecDepth 20000 in
theorem gX3_cellAnew_X3_cellAt : GoodIn wsX3_cellAnew (va_wsS RX3 79 yX3_cellAt wsX3_cellAt) := goodIn_app (goodIn_of _ (by decide +kernel)) ggX3_cellAnew_X3_cellAt
set_option maxRecDepth 20000 in
theorem ggX3_cellAnew_X3_bitOf : GoodIn wsX3_cellAnew wsX3_bitOf := goodIn_g _ [23] rfl (by decide +kernel)
set_option maxRecDepth 20000 in
theorem gX3_cellAnew_X3_bitOf : GoodIn wsX3_cellAnew (va_wsS RX3 83 yX3_bitOf wsX3_bitOf) := goodIn_app (goodIn_of _ (by decide +kernel)) ggX3_cellAnew_X3_bitOf
set_option maxRecDepth 20000 in
theorem ggX3_changes_X0_wearOfAll : GoodIn wsX3_changes wsX0_wearOfAll := goodIn_ca (goodIn_g _ [8, 1, 9, 1, 1, 1, 1, 1, 1, 1, 1, 1, 1, 1] rfl (by decide +kernel)) (goodIn_sub (fun _ h => List.mem_cons_of_mem _ (List.mem_append_right _ h)) (by decide +kernel))
set_option maxRecDepth 20000 in
theorem gX3_changes_X0_wearOfAll : GoodIn wsX3_changes (wsV RX3 230 RX0 yX0_wearOfAll wsX0_wearOfAll) := goodIn_app (goodIn_of _ (by decide +kernel)) ggX3_changes_X0_wearOfAll
set_option maxRecDepth 20000 in
theorem ggX3_worst_X3_boardAt : GoodIn wsX3_worst wsX3_boardAt := goodIn_ca (goodIn_g _ [6, 1, 1, 1, 1, 13, 1, 1, 1, 1, 1, 1, 1] rfl (by decide +kernel)) (goodIn_sub (fun _ h => List.mem_cons_of_mem _ (List.mem_append_right _ h)) (by decide +kernel))
set_option maxRecDepth 20000 in
theorem gX3_worst_X3_boardAt : GoodIn wsX3_worst (wsV RX3 69 RX3 yX3_boardAt wsX3_boardAt) := goodIn_app (goodIn_of _ (by decide +kernel)) ggX3_worst_X3_boardAt
set_option maxRecDepth 20000 in
theorem ggX3_checksum_X3_bitOf : GoodIn wsX3_checksum wsX3_bitOf := goodIn_g _ [8] rfl (by decide +kernel)
set_option maxRecDepth 20000 in
theorem gX3_checksum_X3_bitOf : GoodIn wsX3_checksum (va_wsS RX3 83 yX3_bitOf wsX3_bitOf) := goodIn_app (goodIn_of _ (by decide +kernel)) ggX3_checksum_X3_bitOf
set_option maxRecDepth 20000 in
theorem ggX3_checksum_X0_wearOf : GoodIn wsX3_checksum wsX0_wearOf := goodIn_ca (goodIn_g _ [13, 1, 9, 1, 1, 1, 1, 1, 1, 1, 1, 1, 1, 1] rfl (by decide +kernel)) (goodIn_sub (fun _ h => List.mem_cons_of_mem _ (List.mem_append_right _ h)) (by decide +kernel))
set_option maxRecDepth 20000 in
theorem gX3_checksum_X0_wearOf : GoodIn wsX3_checksum (wsV RX3 86 RX0 yX0_wearOf wsX0_wearOf) := goodIn_app (goodIn_of _ (by decide +kernel)) ggX3_checksum_X0_wearOf
set_option maxRecDepth 20000 in
theorem ggX3_meanWear_X3_changes : GoodIn wsX3_meanWear wsX3_changes := goodIn_ca (goodIn_g _ [9, 0, 4, 6, 1, 1, 1, 1, 1, 1, 1, 1, 1, 1, 1, 1, 1, 1, 1, 1, 1, 1, 1, 1, 1, 1, 1, 1, 1, 1] rfl (by decide +kernel)) (goodIn_sub (fun _ h => List.mem_cons_of_mem _ (List.mem_append_right _ h)) (by decide +kernel))
set_option maxRecDepth 20000 in
theorem gX3_meanWear_X3_changes : GoodIn wsX3_meanWear (wsV RX3 243 RX3 yX3_changes wsX3_changes) := goodIn_app (goodIn_of _ (by decide +kernel)) ggX3_meanWear_X3_changes
set_option maxRecDepth 20000 in
theorem ggX3_isSound_X1_isOf : GoodIn wsX3_isSound wsX1_isOf := goodIn_g _ [9, 1, 1, 45, 1, 1, 1, 1, 1, 1, 1, 1] rfl (by decide +kernel)
set_option maxRecDepth 20000 in
theorem gX3_isSound_X1_isOf : GoodIn wsX3_isSound (wsV RX3 185 RX1 yX1_isOf wsX1_isOf) := goodIn_app (goodIn_of _ (by decide +kernel)) ggX3_isSound_X1_isOf
set_option maxRecDepth 20000 in
theorem ggX3_isSound_X0_canWipe : GoodIn wsX3_isSound wsX0_canWipe := goodIn_ca (goodIn_g _ [16, 1, 1, 1, 1, 1, 1, 1, 1, 1, 1, 1, 1, 1, 15, 1, 1, 1, 1, 1, 1, 1, 1, 1, 1, 1] rfl (by decide +kernel)) (goodIn_sub (fun _ h => List.mem_cons_of_mem _ (List.mem_append_right _ h)) (by decide +kernel))
set_option maxRecDepth 20000 in
theorem gX3_isSound_X0_canWipe : GoodIn wsX3_isSound (wsV RX3 247 RX0 yX0_canWipe wsX0_canWipe) := goodIn_app (goodIn_of _ (by decide +kernel)) ggX3_isSound_X0_canWipe
set_option maxRecDepth 20000 in
theorem ggX3_isSound_X0_blackAnew : GoodIn wsX3_isSound wsX0_blackAnew := goodIn_ca (goodIn_g _ [33, 1, 1, 9, 1, 1, 1, 1, 1, 1, 1, 1, 1, 1, 1] rfl (by decide +kernel)) (goodIn_sub (fun _ h => List.mem_cons_of_mem _ (List.mem_append_right _ h)) (by decide +kernel))
set_option maxRecDepth 20000 in
theorem gX3_isSound_X0_blackAnew : GoodIn wsX3_isSound (wsV RX3 226 RX0 yX0_blackAnew wsX0_blackAnew) := goodIn_app (goodIn_of _ (by decide +kernel)) ggX3_isSound_X0_blackAnew
set_option maxRecDepth 20000 in
theorem ggX3_checkRumour_X3_checkDistrict : GoodIn wsX3_checkRumour wsX3_checkDistrict := goodIn_ca (goodIn_g _ [7, 0, 2, 1] rfl (by decide +kernel)) (goodIn_sub (fun _ h => List.mem_cons_of_mem _ (List.mem_append_right _ h)) (by decide +kernel))
set_option maxRecDepth 20000 in
theorem gX3_checkRumour_X3_checkDistrict : GoodIn wsX3_checkRumour (va_wsS RX3 48 yX3_checkDistrict wsX3_checkDistrict) := goodIn_app (goodIn_of _ (by decide +kernel)) ggX3_checkRumour_X3_checkDistrict
set_option maxRecDepth 20000 in
theorem ggX3_take_X1_fill : GoodIn wsX3_take wsX1_fill := goodIn_g _ [11, 1, 1, 1, 1, 9, 1, 1, 1, 1, 1, 1, 1, 1] rfl (by decide +kernel)
set_option maxRecDepth 20000 in
theorem gX3_take_X1_fill : GoodIn wsX3_take (wsV RX3 263 RX1 yX1_fill wsX1_fill) := goodIn_app (goodIn_of _ (by decide +kernel)) ggX3_take_X1_fill
set_option maxRecDepth 20000 in
theorem ggX3_queueWhereRead_X1_isQueuedIn : GoodIn wsX3_queueWhereRead wsX1_isQueuedIn := goodIn_g _ [7, 1, 1, 1, 1, 1, 1, 1, 0, 6, 9, 1, 19, 1, 1, 1, 1, 1, 1, 1, 1] rfl (by decide +kernel)
set_option maxRecDepth 20000 in
theorem gX3_queueWhereRead_X1_isQueuedIn : GoodIn wsX3_queueWhereRead (wsV RX3 129 RX1 yX1_isQueuedIn wsX1_isQueuedIn) := goodIn_app (goodIn_of _ (by decide +kernel)) ggX3_queueWhereRead_X1_isQueuedIn
set_option maxRecDepth 20000 in
theorem ggX3_queueWhereRead_X3_readersIn : GoodIn wsX3_queueWhereRead wsX3_readersIn := goodIn_ca (goodIn_g _ [20, 1, 1, 5, 1, 1, 1, 1, 1, 1, 1, 10, 1, 1, 1, 1, 1, 1, 1, 1, 1, 1, 1, 0, 35, 1, 1, 1, 1, 1, 1, 1, 1] rfl (by decide +kernel)) (goodIn_sub (fun _ h => List.mem_cons_of_mem _ (List.mem_append_right _ h)) (by decide +kernel))
set_option maxRecDepth 20000 in
theorem gX3_queueWhereRead_X3_readersIn : GoodIn wsX3_queueWhereRead (wsV RX3 198 RX3 yX3_readersIn wsX3_readersIn) := goodIn_app (goodIn_of _ (by decide +kernel)) ggX3_queueWhereRead_X3_readersIn
set_option maxRecDepth 20000 in
theorem ggX3_queueWhereRead_X1_putInto : GoodIn wsX3_queueWhereRead wsX1_putInto := goodIn_g _ [26, 0, 8, 27, 1, 1, 1, 1, 1, 1, 1, 1] rfl (by decide +kernel)
set_option maxRecDepth 20000 in
theorem gX3_queueWhereRead_X1_putInto : GoodIn wsX3_queueWhereRead (wsV RX3 133 RX1 yX1_putInto wsX1_putInto) := goodIn_app (goodIn_of _ (by decide +kernel)) ggX3_queueWhereRead_X1_putInto
set_option maxRecDepth 20000 in
theorem ggX3_isSuspect_X3_readersIn : GoodIn wsX3_isSuspect wsX3_readersIn := goodIn_ca (goodIn_g _ [6, 1, 1, 10, 1, 1, 1, 1, 1, 1, 1, 1, 1, 1, 1, 1, 1, 1, 1, 1, 1, 1, 1, 1, 1, 1, 1, 1, 1, 1, 1, 1] rfl (by decide +kernel)) (goodIn_sub (fun _ h => List.mem_cons_of_mem _ (List.mem_append_right _ h)) (by decide +kernel))
set_option maxRecDepth 20000 in
theorem gX3_isSuspect_X3_readersIn : GoodIn wsX3_isSuspect (wsV RX3 198 RX3 yX3_readersIn wsX3_readersIn) := goodIn_app (goodIn_of _ (by decide +kernel)) ggX3_isSuspect_X3_readersIn
set_option maxRecDepth 20000 in
theorem ggX3_isSuspect_X1_canHaveMade : GoodIn wsX3_isSuspect wsX1_canHaveMade := goodIn_g _ [13, 1, 1, 0, 5, 11, 1, 21, 1, 1, 1, 1, 1, 1, 1, 1] rfl (by decide +kernel)
set_option maxRecDepth 20000 in
theorem gX3_isSuspect_X1_canHaveMade : GoodIn wsX3_isSuspect (wsV RX3 270 RX1 yX1_canHaveMade wsX1_canHaveMade) := goodIn_app (goodIn_of _ (by decide +kernel)) ggX3_isSuspect_X1_canHaveMade
set_option maxRecDepth 20000 in
theorem ggX3_suspectsAhead_X3_readersIn : GoodIn wsX3_suspectsAhead wsX3_readersIn := goodIn_ca (goodIn_g _ [8, 1, 1, 14, 1, 1, 1, 1, 1, 1, 1, 10, 1, 1, 1, 1, 1, 1, 1, 1, 1, 1, 1, 0, 32, 1, 1, 1, 1, 1, 1, 1, 1] rfl (by decide +kernel)) (goodIn_sub (fun _ h => List.mem_cons_of_mem _ (List.mem_append_right _ h)) (by decide +kernel))
set_option maxRecDepth 20000 in
theorem gX3_suspectsAhead_X3_readersIn : GoodIn wsX3_suspectsAhead (wsV RX3 198 RX3 yX3_readersIn wsX3_readersIn) := goodIn_app (goodIn_of _ (by decide +kernel)) ggX3_suspectsAhead_X3_readersIn
set_option maxRecDepth 20000 in
theorem ggX3_suspectsAhead_X3_isSuspect : GoodIn wsX3_suspectsAhead wsX3_isSuspect := goodIn_ca (goodIn_g _ [14, 0, 4, 1, 1, 1, 1, 1, 1, 5, 1, 1, 1, 1, 1, 1, 1, 1, 1, 1, 1, 1, 1, 1, 1, 1, 10, 1, 1, 1, 1, 1, 1, 1, 1, 1, 1, 1, 0, 32, 1, 1, 1, 1, 1, 1, 1, 1] rfl (by decide +kernel)) (goodIn_sub (fun _ h => List.mem_cons_of_mem _ (List.mem_append_right _ h)) (by decide +kernel))
set_option maxRecDepth 20000 in
theorem gX3_suspectsAhead_X3_isSuspect : GoodIn wsX3_suspectsAhead (wsV RX3 208 RX3 yX3_isSuspect wsX3_isSuspect) := goodIn_app (goodIn_of _ (by decide +kernel)) ggX3_suspectsAhead_X3_isSuspect
set_option maxRecDepth 20000 in
theorem ggX3_letHourComeTo_X0_chargeBy : GoodIn wsX3_letHourComeTo wsX0_chargeBy := goodIn_g _ [10, 1, 1, 1, 1, 1, 75, 1, 1, 1, 1, 1, 1, 1, 1, 1, 1, 1] rfl (by decide +kernel)
set_option maxRecDepth 20000 in
theorem gX3_letHourComeTo_X0_chargeBy : GoodIn wsX3_letHourComeTo (wsV RX3 273 RX0 yX0_chargeBy wsX0_chargeBy) := goodIn_app (goodIn_of _ (by decide +kernel)) ggX3_letHourComeTo_X0_chargeBy
set_option maxRecDepth 20000 in
theorem ggX3_letHourComeTo_X1_isOf : GoodIn wsX3_letHourComeTo wsX1_isOf := goodIn_g _ [20, 1, 1, 80, 1, 1, 1, 1, 1, 1, 1, 1] rfl (by decide +kernel)
set_option maxRecDepth 20000 in
theorem gX3_letHourComeTo_X1_isOf : GoodIn wsX3_letHourComeTo (wsV RX3 185 RX1 yX1_isOf wsX1_isOf) := goodIn_app (goodIn_of _ (by decide +kernel)) ggX3_letHourComeTo_X1_isOf
set_option maxRecDepth 20000 in
theorem ggX3_letHourComeTo_X0_wipe : GoodIn wsX3_letHourComeTo wsX0_wipe := goodIn_ca (goodIn_g _ [26, 1, 1, 1, 1, 1, 1, 0, 9, 24, 0, 11, 23, 1, 1, 1, 1, 1, 1, 1, 1, 1, 1, 1, 1, 1, 1, 1, 1, 1, 1, 1, 37, 1, 1, 1, 1, 1, 1, 1, 1, 1, 1, 1] rfl (by decide +kernel)) (goodIn_sub (fun _ h => List.mem_cons_of_mem _ (List.mem_append_right _ h)) (by decide +kernel))
set_option maxRecDepth 20000 in
theorem gX3_letHourComeTo_X0_wipe : GoodIn wsX3_letHourComeTo (wsV RX3 276 RX0 yX0_wipe wsX0_wipe) := goodIn_app (goodIn_of _ (by decide +kernel)) ggX3_letHourComeTo_X0_wipe
set_option maxRecDepth 20000 in
theorem ggX3_letHourComeTo_X1_isQueuedIn : GoodIn wsX3_letHourComeTo wsX1_isQueuedIn := goodIn_g _ [57, 1, 0, 43, 1, 1, 14, 1, 1, 0, 19, 43, 0, 22, 80, 1, 1, 1, 1, 1, 1, 1, 1] rfl (by decide +kernel)
set_option maxRecDepth 20000 in
theorem gX3_letHourComeTo_X1_isQueuedIn : GoodIn wsX3_letHourComeTo (wsV RX3 129 RX1 yX1_isQueuedIn wsX1_isQueuedIn) := goodIn_app (goodIn_of _ (by decide +kernel)) ggX3_letHourComeTo_X1_isQueuedIn
set_option maxRecDepth 20000 in
theorem ggX3_letHourComeTo_X0_takesUp : GoodIn wsX3_letHourComeTo wsX0_takesUp := goodIn_ca (goodIn_g _ [66, 0, 28, 0, 27, 2, 38, 1, 1, 0, 9, 61, 1, 0, 44, 28, 1, 1, 1, 1, 1, 0, 53, 0, 11, 25, 1, 1, 1, 1, 1, 1, 36, 1, 1, 1, 0, 52, 0, 51, 0, 30, 1, 1, 1, 1, 1, 8, 2, 1, 1, 1, 1, 1, 40, 1, 1, 1, 1, 1, 1, 1, 1, 1, 1, 1, 1, 1, 1, 1, 1, 1, 1, 1, 1] rfl (by decide +kernel)) (goodIn_sub (fun _ h => List.mem_cons_of_mem _ (List.mem_append_right _ h)) (by decide +kernel))
set_option maxRecDepth 20000 in
theorem gX3_letHourComeTo_X0_takesUp : GoodIn wsX3_letHourComeTo (wsV RX3 279 RX0 yX0_takesUp wsX0_takesUp) := goodIn_app (goodIn_of _ (by decide +kernel)) ggX3_letHourComeTo_X0_takesUp
set_option maxRecDepth 20000 in
theorem ggX4_noBoard_X4_in : GoodIn wsX4_noBoard wsX4_in := goodIn_g _ [6] rfl (by decide +kernel)
set_option maxRecDepth 20000 in
theorem gX4_noBoard_X4_in : GoodIn wsX4_noBoard (va_wsS RX4 70 yX4_in wsX4_in) := goodIn_app (goodIn_of _ (by decide +kernel)) ggX4_noBoard_X4_in
set_option maxRecDepth 20000 in
theorem ggX4_noNotice_X4_in : GoodIn wsX4_noNotice wsX4_in := goodIn_g _ [6] rfl (by decide +kernel)
set_option maxRecDepth 20000 in
theorem gX4_noNotice_X4_in : GoodIn wsX4_noNotice (va_wsS RX4 70 yX4_in wsX4_in) := goodIn_app (goodIn_of _ (by decide +kernel)) ggX4_noNotice_X4_in
set_option maxRecDepth 20000 in
theorem ggX4_noDistrict_X4_in : GoodIn wsX4_noDistrict wsX4_in := goodIn_g _ [5] rfl (by decide +kernel)
set_option maxRecDepth 20000 in
theorem gX4_noDistrict_X4_in : GoodIn wsX4_noDistrict (va_wsS RX4 70 yX4_in wsX4_in) := goodIn_app (goodIn_of _ (by decide +kernel)) ggX4_noDistrict_X4_in
set_option maxRecDepth 20000 in
theorem ggX4_blacks_X4_has : GoodIn wsX4_blacks wsX4_has := goodIn_g _ [5] rfl (by decide +kernel)
set_option maxRecDepth 20000 in
theorem gX4_blacks_X4_has : GoodIn wsX4_blacks (va_wsS RX4 77 yX4_has wsX4_has) := goodIn_app (goodIn_of _ (by decide +kernel)) ggX4_blacks_X4_has
set_option maxRecDepth 20000 in
theorem ggX4_addBoard_X4_noDistrict : GoodIn wsX4_addBoard wsX4_noDistrict := goodIn_g _ [10, 1, 1, 0, 9, 4] rfl (by decide +kernel)
set_option maxRecDepth 20000 in
theorem gX4_addBoard_X4_noDistrict : GoodIn wsX4_addBoard (va_wsS RX4 80 yX4_noDistrict wsX4_noDistrict) := goodIn_app (goodIn_of _ (by decide +kernel)) ggX4_addBoard_X4_noDistrict
set_option maxRecDepth 20000 in
theorem ggX4_addBoard_X4_in : GoodIn wsX4_addBoard wsX4_in := goodIn_g _ [13] rfl (by decide +kernel)
set_option maxRecDepth 20000 in
theorem gX4_addBoard_X4_in : GoodIn wsX4_addBoard (va_wsS RX4 70 yX4_in wsX4_in) := goodIn_app (goodIn_of _ (by decide +kernel)) ggX4_addBoard_X4_in
set_option maxRecDepth 20000 in
theorem ggX4_addBoard_X4_fails : GoodIn wsX4_addBoard wsX4_fails := goodIn_g _ [17, 0, 2, 16, 1, 1, 1, 1, 1, 1, 1, 1, 1, 1, 1, 1, 1, 1, 1, 1, 1, 1, 1, 1, 1] rfl (by decide +kernel)
set_option maxRecDepth 20000 in
theorem gX4_addBoard_X4_fails : GoodIn wsX4_addBoard (wsV RX4 84 RX4 yX4_fails wsX4_fails) := goodIn_app (goodIn_of _ (by decide +kernel)) ggX4_addBoard_X4_fails
set_option maxRecDepth 20000 in
theorem ggX4_setSun_X4_in : GoodIn wsX4_setSun wsX4_in := goodIn_g _ [7] rfl (by decide +kernel)
set_option maxRecDepth 20000 in
theorem gX4_setSun_X4_in : GoodIn wsX4_setSun (va_wsS RX4 70 yX4_in wsX4_in) := goodIn_app (goodIn_of _ (by decide +kernel)) ggX4_setSun_X4_in
set_option maxRecDepth 20000 in
theorem ggX4_setSun_X4_fails : GoodIn wsX4_setSun wsX4_fails := goodIn_g _ [11, 0, 2, 10, 1, 1, 1, 1, 1, 1, 1, 1, 1, 1, 1, 1, 1, 1, 1, 1, 1, 1, 1, 1, 1] rfl (by decide +kernel)
set_option maxRecDepth 20000 in
theorem gX4_setSun_X4_fails : GoodIn wsX4_setSun (wsV RX4 84 RX4 yX4_fails wsX4_fails) := goodIn_app (goodIn_of _ (by decide +kernel)) ggX4_setSun_X4_fails
set_option maxRecDepth 20000 in
theorem ggX4_charge_X4_noBoard : GoodIn wsX4_charge wsX4_noBoard := goodIn_g _ [8, 1, 1, 1, 0, 7, 5, 5, 1, 1, 1, 1, 1, 1, 1, 1, 1, 1, 1, 1, 1, 1, 1, 1, 1, 1, 1, 1, 1] rfl (by decide +kernel)
set_option maxRecDepth 20000 in
theorem gX4_charge_X4_noBoard : GoodIn wsX4_charge (wsV RX4 88 RX4 yX4_noBoard wsX4_noBoard) := goodIn_app (goodIn_of _ (by decide +kernel)) ggX4_charge_X4_noBoard
set_option maxRecDepth 20000 in
theorem ggX4_charge_X4_fails : GoodIn wsX4_charge wsX4_fails := goodIn_g _ [16, 0, 2, 15, 1, 1, 1, 1, 1, 1, 1, 1, 1, 1, 1, 1, 1, 1, 1, 1, 1, 1, 1, 1, 1] rfl (by decide +kernel)
set_option maxRecDepth 20000 in
theorem gX4_charge_X4_fails : GoodIn wsX4_charge (wsV RX4 84 RX4 yX4_fails wsX4_fails) := goodIn_app (goodIn_of _ (by decide +kernel)) ggX4_charge_X4_fails
set_option maxRecDepth 20000 in
theorem ggX4_noCell_X4_noBoard : GoodIn wsX4_noCell wsX4_noBoard := goodIn_g _ [6, 1, 1, 1, 0, 5, 5, 1, 1, 1, 1, 1, 1, 1, 1, 1, 1, 1, 1, 1, 1, 1, 1, 1, 1, 1, 1, 1, 1] rfl (by decide +kernel)
set_option maxRecDepth 20000 in
theorem gX4_noCell_X4_noBoard : GoodIn wsX4_noCell (wsV RX4 88 RX4 yX4_noBoard wsX4_noBoard) := goodIn_app (goodIn_of _ (by decide +kernel)) ggX4_noCell_X4_noBoard
set_option maxRecDepth 20000 in
theorem ggX4_noCell_X4_in : GoodIn wsX4_noCell wsX4_in := goodIn_g _ [10] rfl (by decide +kernel)
set_option maxRecDepth 20000 in
theorem gX4_noCell_X4_in : GoodIn wsX4_noCell (va_wsS RX4 70 yX4_in wsX4_in) := goodIn_app (goodIn_of _ (by decide +kernel)) ggX4_noCell_X4_in
set_option maxRecDepth 20000 in
theorem ggX4_cell_X4_noCell : GoodIn wsX4_cell wsX4_noCell := goodIn_g _ [8, 1, 1, 1, 0, 7, 5, 1, 1, 1, 1, 5, 1, 1, 1, 1, 1, 1, 1, 1, 1, 1, 1, 1, 1, 1, 1, 1, 1, 1, 1, 1, 1] rfl (by decide +kernel)
set_option maxRecDepth 20000 in
theorem gX4_cell_X4_noCell : GoodIn wsX4_cell (wsV RX4 91 RX4 yX4_noCell wsX4_noCell) := goodIn_app (goodIn_of _ (by decide +kernel)) ggX4_cell_X4_noCell
set_option maxRecDepth 20000 in
theorem ggX4_cell_X4_fails : GoodIn wsX4_cell wsX4_fails := goodIn_g _ [20, 0, 2, 19, 1, 1, 1, 1, 1, 1, 1, 1, 1, 1, 1, 1, 1, 1, 1, 1, 1, 1, 1, 1, 1] rfl (by decide +kernel)
set_option maxRecDepth 20000 in
theorem gX4_cell_X4_fails : GoodIn wsX4_cell (wsV RX4 84 RX4 yX4_fails wsX4_fails) := goodIn_app (goodIn_of _ (by decide +kernel)) ggX4_cell_X4_fails
set_option maxRecDepth 20000 in
theorem ggX4_wear_X4_noCell : GoodIn wsX4_wear wsX4_noCell := goodIn_g _ [8, 1, 1, 1, 0, 7, 5, 1, 1, 1, 1, 5, 1, 1, 1, 1, 1, 1, 1, 1, 1, 1, 1, 1, 1, 1, 1, 1, 1, 1, 1, 1, 1] rfl (by decide +kernel)
set_option maxRecDepth 20000 in
theorem gX4_wear_X4_noCell : GoodIn wsX4_wear (wsV RX4 91 RX4 yX4_noCell wsX4_noCell) := goodIn_app (goodIn_of _ (by decide +kernel)) ggX4_wear_X4_noCell
set_option maxRecDepth 20000 in
theorem ggX4_wear_X4_fails : GoodIn wsX4_wear wsX4_fails := goodIn_g _ [20, 0, 2, 19, 1, 1, 1, 1, 1, 1, 1, 1, 1, 1, 1, 1, 1, 1, 1, 1, 1, 1, 1, 1, 1] rfl (by decide +kernel)
set_option maxRecDepth 20000 in
theorem gX4_wear_X4_fails : GoodIn wsX4_wear (wsV RX4 84 RX4 yX4_fails wsX4_fails) := goodIn_app (goodIn_of _ (by decide +kernel)) ggX4_wear_X4_fails
set_option maxRecDepth 20000 in
theorem ggX4_shows_X4_noBoard : GoodIn wsX4_shows wsX4_noBoard := goodIn_g _ [8, 1, 1, 1, 0, 7, 5, 5, 1, 1, 1, 1, 1, 1, 1, 1, 1, 1, 1, 1, 1, 1, 1, 1, 1, 1, 1, 1, 1] rfl (by decide +kernel)
set_option maxRecDepth 20000 in
theorem gX4_shows_X4_noBoard : GoodIn wsX4_shows (wsV RX4 88 RX4 yX4_noBoard wsX4_noBoard) := goodIn_app (goodIn_of _ (by decide +kernel)) ggX4_shows_X4_noBoard
set_option maxRecDepth 20000 in
theorem ggX4_shows_X4_fails : GoodIn wsX4_shows wsX4_fails := goodIn_g _ [16, 0, 2, 15, 1, 1, 1, 1, 1, 1, 1, 1, 1, 1, 1, 1, 1, 1, 1, 1, 1, 1, 1, 1, 1] rfl (by decide +kernel)
set_option maxRecDepth 20000 in
theorem gX4_shows_X4_fails : GoodIn wsX4_shows (wsV RX4 84 RX4 yX4_fails wsX4_fails) := goodIn_app (goodIn_of _ (by decide +kernel)) ggX4_shows_X4_fails
set_option maxRecDepth 20000 in
theorem ggX4_shift_X4_noBoard : GoodIn wsX4_shift wsX4_noBoard := goodIn_g _ [8, 1, 1, 1, 0, 7, 5, 5, 1, 1, 1, 1, 1, 1, 1, 1, 1, 1, 1, 1, 1, 1, 1, 1, 1, 1, 1, 1, 1] rfl (by decide +kernel)
set_option maxRecDepth 20000 in
theorem gX4_shift_X4_noBoard : GoodIn wsX4_shift (wsV RX4 88 RX4 yX4_noBoard wsX4_noBoard) := goodIn_app (goodIn_of _ (by decide +kernel)) ggX4_shift_X4_noBoard
set_option maxRecDepth 20000 in
theorem ggX4_shift_X4_fails : GoodIn wsX4_shift wsX4_fails := goodIn_g _ [16, 0, 2, 15, 1, 1, 1, 1, 1, 1, 1, 1, 1, 1, 1, 1, 1, 1, 1, 1, 1, 1, 1, 1, 1] rfl (by decide +kernel)
set_option maxRecDepth 20000 in
theorem gX4_shift_X4_fails : GoodIn wsX4_shift (wsV RX4 84 RX4 yX4_fails wsX4_fails) := goodIn_app (goodIn_of _ (by decide +kernel)) ggX4_shift_X4_fails
set_option maxRecDepth 20000 in
theorem ggX4_sleeps_X4_noBoard : GoodIn wsX4_sleeps wsX4_noBoard := goodIn_g _ [8, 1, 1, 1, 0, 7, 5, 5, 1, 1, 1, 1, 1, 1, 1, 1, 1, 1, 1, 1, 1, 1, 1, 1, 1, 1, 1, 1, 1] rfl (by decide +kernel)
set_option maxRecDepth 20000 in
theorem gX4_sleeps_X4_noBoard : GoodIn wsX4_sleeps (wsV RX4 88 RX4 yX4_noBoard wsX4_noBoard) := goodIn_app (goodIn_of _ (by decide +kernel)) ggX4_sleeps_X4_noBoard
set_option maxRecDepth 20000 in
theorem ggX4_sleeps_X4_fails : GoodIn wsX4_sleeps wsX4_fails := goodIn_g _ [16, 0, 2, 15, 1, 1, 1, 1, 1, 1, 1, 1, 1, 1, 1, 1, 1, 1, 1, 1, 1, 1, 1, 1, 1] rfl (by decide +kernel)
set_option maxRecDepth 20000 in
theorem gX4_sleeps_X4_fails : GoodIn wsX4_sleeps (wsV RX4 84 RX4 yX4_fails wsX4_fails) := goodIn_app (goodIn_of _ (by decide +kernel)) ggX4_sleeps_X4_fails
set_option maxRecDepth 20000 in
theorem ggX4_post_X4_in : GoodIn wsX4_post wsX4_in := goodIn_g _ [7] rfl (by decide +kernel)
set_option maxRecDepth 20000 in
theorem gX4_post_X4_in : GoodIn wsX4_post (va_wsS RX4 70 yX4_in wsX4_in) := goodIn_app (goodIn_of _ (by decide +kernel)) ggX4_post_X4_in
set_option maxRecDepth 20000 in
theorem ggX4_post_X4_fails : GoodIn wsX4_post wsX4_fails := goodIn_g _ [11, 0, 2, 18, 1, 1, 1, 1, 1, 1, 1, 1, 1, 1, 1, 1, 1, 1, 1, 1, 1, 1, 1, 1, 1] rfl (by decide +kernel)
set_option maxRecDepth 20000 in
theorem gX4_post_X4_fails : GoodIn wsX4_post (wsV RX4 84 RX4 yX4_fails wsX4_fails) := goodIn_app (goodIn_of _ (by decide +kernel)) ggX4_post_X4_fails
set_option maxRecDepth 20000 in
theorem ggX4_post_X4_add : GoodIn wsX4_post wsX4_add := goodIn_ca (goodIn_g _ [15, 1, 0, 3, 14, 1, 1, 1, 1, 1, 1, 1, 1, 1, 1, 1, 1, 1, 1, 1, 1, 1, 1, 1, 1, 1, 1, 1, 1] rfl (by decide +kernel)) (goodIn_sub (fun _ h => List.mem_cons_of_mem _ (List.mem_append_right _ h)) (by decide +kernel))
set_option maxRecDepth 20000 in
theorem gX4_post_X4_add : GoodIn wsX4_post (wsV RX4 94 RX4 yX4_add wsX4_add) := goodIn_app (goodIn_of _ (by decide +kernel)) ggX4_post_X4_add
set_option maxRecDepth 20000 in
theorem ggX4_queue_X4_noNotice : GoodIn wsX4_queue wsX4_noNotice := goodIn_g _ [10, 1, 1, 1, 0, 9, 5, 8, 1, 1, 1, 1, 1, 1, 1, 1, 1, 1, 1, 1, 1, 1, 1, 1, 1, 1, 1, 1, 1] rfl (by decide +kernel)
set_option maxRecDepth 20000 in
theorem gX4_queue_X4_noNotice : GoodIn wsX4_queue (wsV RX4 98 RX4 yX4_noNotice wsX4_noNotice) := goodIn_app (goodIn_of _ (by decide +kernel)) ggX4_queue_X4_noNotice
set_option maxRecDepth 20000 in
theorem ggX4_queue_X4_fails : GoodIn wsX4_queue wsX4_fails := goodIn_g _ [18, 0, 2, 20, 1, 1, 1, 1, 1, 1, 1, 1, 1, 1, 1, 1, 1, 1, 1, 1, 1, 1, 1, 1, 1] rfl (by decide +kernel)
set_option maxRecDepth 20000 in
theorem gX4_queue_X4_fails : GoodIn wsX4_queue (wsV RX4 84 RX4 yX4_fails wsX4_fails) := goodIn_app (goodIn_of _ (by decide +kernel)) ggX4_queue_X4_fails
set_option maxRecDepth 20000 in
theorem ggX4_queue_X4_noDistrict : GoodIn wsX4_queue wsX4_noDistrict := goodIn_g _ [21, 0, 12, 1, 0, 9, 5] rfl (by decide +kernel)
set_option maxRecDepth 20000 in
theorem gX4_queue_X4_noDistrict : GoodIn wsX4_queue (va_wsS RX4 80 yX4_noDistrict wsX4_noDistrict) := goodIn_app (goodIn_of _ (by decide +kernel)) ggX4_queue_X4_noDistrict
set_option maxRecDepth 20000 in
theorem ggX4_takeBack_X4_noNotice : GoodIn wsX4_takeBack wsX4_noNotice := goodIn_g _ [13, 1, 1, 1, 0, 12, 5, 5, 1, 1, 1, 1, 1, 1, 1, 1, 1, 1, 1, 1, 1, 1, 1, 1, 1, 1, 1, 1, 1] rfl (by decide +kernel)
set_option maxRecDepth 20000 in
theorem gX4_takeBack_X4_noNotice : GoodIn wsX4_takeBack (wsV RX4 98 RX4 yX4_noNotice wsX4_noNotice) := goodIn_app (goodIn_of _ (by decide +kernel)) ggX4_takeBack_X4_noNotice
set_option maxRecDepth 20000 in
theorem ggX4_takeBack_X4_fails : GoodIn wsX4_takeBack wsX4_fails := goodIn_g _ [21, 0, 2, 20, 1, 1, 1, 1, 1, 1, 1, 1, 1, 1, 1, 1, 1, 1, 1, 1, 1, 1, 1, 1, 1] rfl (by decide +kernel)
set_option maxRecDepth 20000 in
theorem gX4_takeBack_X4_fails : GoodIn wsX4_takeBack (wsV RX4 84 RX4 yX4_fails wsX4_fails) := goodIn_app (goodIn_of _ (by decide +kernel)) ggX4_takeBack_X4_fails
set_option maxRecDepth 20000 in
theorem ggX4_mend_X4_noNotice : GoodIn wsX4_mend wsX4_noNotice := goodIn_g _ [15, 0, 7, 9, 1, 0, 14, 4, 22, 1, 1, 1, 1, 1, 1, 1, 1, 1, 1, 1, 1, 1, 1, 1, 1, 1, 1, 1, 1, 1] rfl (by decide +kernel)
set_option maxRecDepth 20000 in
theorem gX4_mend_X4_noNotice : GoodIn wsX4_mend (wsV RX4 98 RX4 yX4_noNotice wsX4_noNotice) := goodIn_app (goodIn_of _ (by decide +kernel)) ggX4_mend_X4_noNotice
set_option maxRecDepth 20000 in
theorem ggX4_mend_X4_fails : GoodIn wsX4_mend wsX4_fails := goodIn_g _ [22, 0, 2, 38, 1, 1, 1, 1, 1, 1, 1, 1, 1, 1, 1, 1, 1, 1, 1, 1, 1, 1, 1, 1, 1] rfl (by decide +kernel)
set_option maxRecDepth 20000 in
theorem gX4_mend_X4_fails : GoodIn wsX4_mend (wsV RX4 84 RX4 yX4_fails wsX4_fails) := goodIn_app (goodIn_of _ (by decide +kernel)) ggX4_mend_X4_fails
set_option maxRecDepth 20000 in
theorem ggX4_mend_X4_least : GoodIn wsX4_mend wsX4_least := goodIn_g _ [25] rfl (by decide +kernel)
set_option maxRecDepth 20000 in
theorem gX4_mend_X4_least : GoodIn wsX4_mend (va_wsS RX4 104 yX4_least wsX4_least) := goodIn_app (goodIn_of _ (by decide +kernel)) ggX4_mend_X4_least
set_option maxRecDepth 20000 in
theorem ggX4_mend_X4_most : GoodIn wsX4_mend wsX4_most := goodIn_g _ [28] rfl (by decide +kernel)
set_option maxRecDepth 20000 in
theorem gX4_mend_X4_most : GoodIn wsX4_mend (va_wsS RX4 108 yX4_most wsX4_most) := goodIn_app (goodIn_of _ (by decide +kernel)) ggX4_mend_X4_most
set_option maxRecDepth 20000 in
theorem ggX4_mend_X4_add : GoodIn wsX4_mend wsX4_add := goodIn_ca (goodIn_g _ [32, 0, 8, 0, 7, 0, 3, 6, 0, 6, 34, 1, 1, 1, 1, 1, 1, 1, 1, 1, 1, 1, 1, 1, 1, 1, 1, 1, 1, 1, 1, 1] rfl (by decide +kernel)) (goodIn_sub (fun _ h => List.mem_cons_of_mem _ (List.mem_append_right _ h)) (by decide +kernel))
set_option maxRecDepth 20000 in
theorem gX4_mend_X4_add : GoodIn wsX4_mend (wsV RX4 94 RX4 yX4_add wsX4_add) := goodIn_app (goodIn_of _ (by decide +kernel)) ggX4_mend_X4_add
set_option maxRecDepth 20000 in
theorem ggX4_mend_X4_readersOf : GoodIn wsX4_mend wsX4_readersOf := goodIn_ca (goodIn_g _ [36, 1, 1, 1, 1, 1, 1, 1, 1, 1, 1, 1, 1, 1, 1, 1, 1, 1, 1, 1, 1, 1, 1, 1, 1, 1] rfl (by decide +kernel)) (goodIn_sub (fun _ h => List.mem_cons_of_mem _ (List.mem_append_right _ h)) (by decide +kernel))
set_option maxRecDepth 20000 in
theorem gX4_mend_X4_readersOf : GoodIn wsX4_mend (wsV RX4 111 RX4 yX4_readersOf wsX4_readersOf) := goodIn_app (goodIn_of _ (by decide +kernel)) ggX4_mend_X4_readersOf
set_option maxRecDepth 20000 in
theorem ggX4_deny_X4_noDistrict : GoodIn wsX4_deny wsX4_noDistrict := goodIn_g _ [9, 1, 1, 0, 8, 4] rfl (by decide +kernel)
set_option maxRecDepth 20000 in
theorem gX4_deny_X4_noDistrict : GoodIn wsX4_deny (va_wsS RX4 80 yX4_noDistrict wsX4_noDistrict) := goodIn_app (goodIn_of _ (by decide +kernel)) ggX4_deny_X4_noDistrict
set_option maxRecDepth 20000 in
theorem ggX4_deny_X4_in : GoodIn wsX4_deny wsX4_in := goodIn_g _ [12] rfl (by decide +kernel)
set_option maxRecDepth 20000 in
theorem gX4_deny_X4_in : GoodIn wsX4_deny (va_wsS RX4 70 yX4_in wsX4_in) := goodIn_app (goodIn_of _ (by decide +kernel)) ggX4_deny_X4_in
set_option maxRecDepth 20000 in
theorem ggX4_deny_X4_fails : GoodIn wsX4_deny wsX4_fails := goodIn_g _ [16, 0, 2, 23, 1, 1, 1, 1, 1, 1, 1, 1, 1, 1, 1, 1, 1, 1, 1, 1, 1, 1, 1, 1, 1] rfl (by decide +kernel)
set_option maxRecDepth 20000 in
theorem gX4_deny_X4_fails : GoodIn wsX4_deny (wsV RX4 84 RX4 yX4_fails wsX4_fails) := goodIn_app (goodIn_of _ (by decide +kernel)) ggX4_deny_X4_fails
set_option maxRecDepth 20000 in
theorem ggX4_deny_X4_add : GoodIn wsX4_deny wsX4_add := goodIn_ca (goodIn_g _ [20, 1, 0, 4, 18, 1, 1, 1, 1, 1, 1, 1, 1, 1, 1, 1, 1, 1, 1, 1, 1, 1, 1, 1, 1, 1, 1, 1, 1] rfl (by decide +kernel)) (goodIn_sub (fun _ h => List.mem_cons_of_mem _ (List.mem_append_right _ h)) (by decide +kernel))
set_option maxRecDepth 20000 in
theorem gX4_deny_X4_add : GoodIn wsX4_deny (wsV RX4 94 RX4 yX4_add wsX4_add) := goodIn_app (goodIn_of _ (by decide +kernel)) ggX4_deny_X4_add
set_option maxRecDepth 20000 in
theorem ggX4_inQueue_X4_isIn : GoodIn wsX4_inQueue wsX4_isIn := goodIn_ca (goodIn_g _ [8, 1, 1, 1, 1, 1, 1, 1, 1, 1, 1, 1, 1, 1, 1, 1, 1, 1, 1, 1, 1, 1, 1, 1, 1, 1] rfl (by decide +kernel)) (goodIn_sub (fun _ h => List.mem_cons_of_mem _ (List.mem_append_right _ h)) (by decide +kernel))
set_option maxRecDepth 20000 in
theorem gX4_inQueue_X4_isIn : GoodIn wsX4_inQueue (wsV RX4 114 RX4 yX4_isIn wsX4_isIn) := goodIn_app (goodIn_of _ (by decide +kernel)) ggX4_inQueue_X4_isIn
set_option maxRecDepth 20000 in
theorem ggX4_manyQueued_X4_isIn : GoodIn wsX4_manyQueued wsX4_isIn := goodIn_ca (goodIn_g _ [7, 1, 1, 1, 1, 1, 1, 1, 1, 1, 1, 1, 1, 1, 1, 1, 1, 1, 1, 1, 1, 1, 1, 1, 1, 1] rfl (by decide +kernel)) (goodIn_sub (fun _ h => List.mem_cons_of_mem _ (List.mem_append_right _ h)) (by decide +kernel))
set_option maxRecDepth 20000 in
theorem gX4_manyQueued_X4_isIn : GoodIn wsX4_manyQueued (wsV RX4 114 RX4 yX4_isIn wsX4_isIn) := goodIn_app (goodIn_of _ (by decide +kernel)) ggX4_manyQueued_X4_isIn
set_option maxRecDepth 20000 in
theorem ggX4_queued_X4_noDistrict : GoodIn wsX4_queued wsX4_noDistrict := goodIn_g _ [6, 1, 1, 0, 5, 4] rfl (by decide +kernel)
set_option maxRecDepth 20000 in
theorem gX4_queued_X4_noDistrict : GoodIn wsX4_queued (va_wsS RX4 80 yX4_noDistrict wsX4_noDistrict) := goodIn_app (goodIn_of _ (by decide +kernel)) ggX4_queued_X4_noDistrict
set_option maxRecDepth 20000 in
theorem ggX4_queued_X4_fails : GoodIn wsX4_queued wsX4_fails := goodIn_g _ [13, 0, 2, 24, 1, 1, 1, 1, 1, 1, 1, 1, 1, 1, 1, 1, 1, 1, 1, 1, 1, 1, 1, 1, 1] rfl (by decide +kernel)
set_option maxRecDepth 20000 in
theorem gX4_queued_X4_fails : GoodIn wsX4_queued (wsV RX4 84 RX4 yX4_fails wsX4_fails) := goodIn_app (goodIn_of _ (by decide +kernel)) ggX4_queued_X4_fails
set_option maxRecDepth 20000 in
theorem ggX4_queued_X4_manyQueued : GoodIn wsX4_queued wsX4_manyQueued := goodIn_ca (goodIn_g _ [17, 1, 1, 1, 1, 0, 5, 17, 1, 1, 1, 1, 1, 1, 1, 1, 1, 1, 1, 1, 1, 1, 1, 1, 1, 1, 1, 1, 1, 1, 1, 1, 1] rfl (by decide +kernel)) (goodIn_sub (fun _ h => List.mem_cons_of_mem _ (List.mem_append_right _ h)) (by decide +kernel))
set_option maxRecDepth 20000 in
theorem gX4_queued_X4_manyQueued : GoodIn wsX4_queued (wsV RX4 118 RX4 yX4_manyQueued wsX4_manyQueued) := goodIn_app (goodIn_of _ (by decide +kernel)) ggX4_queued_X4_manyQueued
set_option maxRecDepth 20000 in
theorem ggX4_queuedAt_X4_noDistrict : GoodIn wsX4_queuedAt wsX4_noDistrict := goodIn_g _ [6, 1, 1, 0, 5, 4] rfl (by decide +kernel)
set_option maxRecDepth 20000 in
theorem gX4_queuedAt_X4_noDistrict : GoodIn wsX4_queuedAt (va_wsS RX4 80 yX4_noDistrict wsX4_noDistrict) := goodIn_app (goodIn_of _ (by decide +kernel)) ggX4_queuedAt_X4_noDistrict
set_option maxRecDepth 20000 in
theorem ggX4_queuedAt_X4_fails : GoodIn wsX4_queuedAt wsX4_fails := goodIn_g _ [13, 0, 2, 29, 1, 1, 1, 1, 1, 1, 1, 1, 1, 1, 1, 1, 1, 1, 1, 1, 1, 1, 1, 1, 1] rfl (by decide +kernel)
set_option maxRecDepth 20000 in
theorem gX4_queuedAt_X4_fails : GoodIn wsX4_queuedAt (wsV RX4 84 RX4 yX4_fails wsX4_fails) := goodIn_app (goodIn_of _ (by decide +kernel)) ggX4_queuedAt_X4_fails
set_option maxRecDepth 20000 in
theorem ggX4_queuedAt_X4_manyQueued : GoodIn wsX4_queuedAt wsX4_manyQueued := goodIn_ca (goodIn_g _ [17, 1, 1, 1, 1, 0, 5, 17, 1, 1, 1, 6, 1, 1, 1, 1, 1, 1, 1, 1, 1, 1, 1, 1, 1, 1, 1, 1, 1, 1, 1, 1, 1] rfl (by decide +kernel)) (goodIn_sub (fun _ h => List.mem_cons_of_mem _ (List.mem_append_right _ h)) (by decide +kernel))
set_option maxRecDepth 20000 in
theorem gX4_queuedAt_X4_manyQueued : GoodIn wsX4_queuedAt (wsV RX4 118 RX4 yX4_manyQueued wsX4_manyQueued) := goodIn_app (goodIn_of _ (by decide +kernel)) ggX4_queuedAt_X4_manyQueued
set_option maxRecDepth 20000 in
theorem ggX4_queuedAt_X4_in : GoodIn wsX4_queuedAt wsX4_in := goodIn_g _ [9] rfl (by decide +kernel)
set_option maxRecDepth 20000 in
theorem gX4_queuedAt_X4_in : GoodIn wsX4_queuedAt (va_wsS RX4 70 yX4_in wsX4_in) := goodIn_app (goodIn_of _ (by decide +kernel)) ggX4_queuedAt_X4_in
set_option maxRecDepth 20000 in
theorem ggX4_queuedAt_X4_inQueue : GoodIn wsX4_queuedAt wsX4_inQueue := goodIn_ca (goodIn_g _ [29, 0, 18, 12, 0, 19, 1, 1, 0, 5, 17, 1, 1, 1, 6, 1, 1, 1, 1, 1, 1, 1, 1, 1, 1, 1, 1, 1, 1, 1, 1, 1, 1, 1, 1, 1] rfl (by decide +kernel)) (goodIn_sub (fun _ h => List.mem_cons_of_mem _ (List.mem_append_right _ h)) (by decide +kernel))
set_option maxRecDepth 20000 in
theorem gX4_queuedAt_X4_inQueue : GoodIn wsX4_queuedAt (wsV RX4 122 RX4 yX4_inQueue wsX4_inQueue) := goodIn_app (goodIn_of _ (by decide +kernel)) ggX4_queuedAt_X4_inQueue
set_option maxRecDepth 20000 in
theorem ggX4_isDue_X4_noNotice : GoodIn wsX4_isDue wsX4_noNotice := goodIn_g _ [7, 1, 1, 1, 0, 6, 5, 12, 1, 1, 1, 1, 1, 1, 1, 1, 1, 1, 1, 1, 1, 1, 1, 1, 1, 1, 1, 1, 1] rfl (by decide +kernel)
set_option maxRecDepth 20000 in
theorem gX4_isDue_X4_noNotice : GoodIn wsX4_isDue (wsV RX4 98 RX4 yX4_noNotice wsX4_noNotice) := goodIn_app (goodIn_of _ (by decide +kernel)) ggX4_isDue_X4_noNotice
set_option maxRecDepth 20000 in
theorem ggX4_isDue_X4_fails : GoodIn wsX4_isDue wsX4_fails := goodIn_g _ [15, 0, 2, 21, 1, 1, 1, 1, 1, 1, 1, 1, 1, 1, 1, 1, 1, 1, 1, 1, 1, 1, 1, 1, 1] rfl (by decide +kernel)
set_option maxRecDepth 20000 in
theorem gX4_isDue_X4_fails : GoodIn wsX4_isDue (wsV RX4 84 RX4 yX4_fails wsX4_fails) := goodIn_app (goodIn_of _ (by decide +kernel)) ggX4_isDue_X4_fails
set_option maxRecDepth 20000 in
theorem ggX4_isDue_X4_dueNow : GoodIn wsX4_isDue wsX4_dueNow := goodIn_ca (goodIn_g _ [19, 1, 1, 1, 1, 1, 1, 1, 1, 1, 1, 1, 1, 1, 1, 1, 1, 1, 1, 1, 1, 1, 1, 1, 1, 1] rfl (by decide +kernel)) (goodIn_sub (fun _ h => List.mem_cons_of_mem _ (List.mem_append_right _ h)) (by decide +kernel))
set_option maxRecDepth 20000 in
theorem gX4_isDue_X4_dueNow : GoodIn wsX4_isDue (wsV RX4 125 RX4 yX4_dueNow wsX4_dueNow) := goodIn_app (goodIn_of _ (by decide +kernel)) ggX4_isDue_X4_dueNow
set_option maxRecDepth 20000 in
theorem ggX4_pass_X4_noBoard : GoodIn wsX4_pass wsX4_noBoard := goodIn_g _ [11, 1, 1, 1, 0, 10, 5, 5, 1, 1, 1, 1, 1, 1, 1, 1, 1, 1, 1, 1, 1, 1, 1, 1, 1, 1, 1, 1, 1] rfl (by decide +kernel)
set_option maxRecDepth 20000 in
theorem gX4_pass_X4_noBoard : GoodIn wsX4_pass (wsV RX4 88 RX4 yX4_noBoard wsX4_noBoard) := goodIn_app (goodIn_of _ (by decide +kernel)) ggX4_pass_X4_noBoard
set_option maxRecDepth 20000 in
theorem ggX4_pass_X4_fails : GoodIn wsX4_pass wsX4_fails := goodIn_g _ [19, 0, 2, 18, 1, 1, 1, 1, 1, 1, 1, 1, 1, 1, 1, 1, 1, 1, 1, 1, 1, 1, 1, 1, 1] rfl (by decide +kernel)
set_option maxRecDepth 20000 in
theorem gX4_pass_X4_fails : GoodIn wsX4_pass (wsV RX4 84 RX4 yX4_fails wsX4_fails) := goodIn_app (goodIn_of _ (by decide +kernel)) ggX4_pass_X4_fails
set_option maxRecDepth 20000 in
theorem ggX4_pass_X4_in : GoodIn wsX4_pass wsX4_in := goodIn_g _ [15] rfl (by decide +kernel)
set_option maxRecDepth 20000 in
theorem gX4_pass_X4_in : GoodIn wsX4_pass (va_wsS RX4 70 yX4_in wsX4_in) := goodIn_app (goodIn_of _ (by decide +kernel)) ggX4_pass_X4_in
set_option maxRecDepth 20000 in
theorem ggX4_readers_X4_noNotice : GoodIn wsX4_readers wsX4_noNotice := goodIn_g _ [7, 1, 1, 1, 0, 6, 5, 15, 1, 1, 1, 1, 1, 1, 1, 1, 1, 1, 1, 1, 1, 1, 1, 1, 1, 1, 1, 1, 1] rfl (by decide +kernel)
set_option maxRecDepth 20000 in
theorem gX4_readers_X4_noNotice : GoodIn wsX4_readers (wsV RX4 98 RX4 yX4_noNotice wsX4_noNotice) := goodIn_app (goodIn_of _ (by decide +kernel)) ggX4_readers_X4_noNotice
set_option maxRecDepth 20000 in
theorem ggX4_readers_X4_fails : GoodIn wsX4_readers wsX4_fails := goodIn_g _ [15, 0, 2, 24, 1, 1, 1, 1, 1, 1, 1, 1, 1, 1, 1, 1, 1, 1, 1, 1, 1, 1, 1, 1, 1] rfl (by decide +kernel)
set_option maxRecDepth 20000 in
theorem gX4_readers_X4_fails : GoodIn wsX4_readers (wsV RX4 84 RX4 yX4_fails wsX4_fails) := goodIn_app (goodIn_of _ (by decide +kernel)) ggX4_readers_X4_fails
set_option maxRecDepth 20000 in
theorem ggX4_readers_X4_noDistrict : GoodIn wsX4_readers wsX4_noDistrict := goodIn_g _ [18, 0, 9, 1, 0, 6, 5] rfl (by decide +kernel)
set_option maxRecDepth 20000 in
theorem gX4_readers_X4_noDistrict : GoodIn wsX4_readers (va_wsS RX4 80 yX4_noDistrict wsX4_noDistrict) := goodIn_app (goodIn_of _ (by decide +kernel)) ggX4_readers_X4_noDistrict
set_option maxRecDepth 20000 in
theorem ggX4_readers_X4_readersOf : GoodIn wsX4_readers wsX4_readersOf := goodIn_ca (goodIn_g _ [22, 1, 1, 1, 1, 1, 1, 1, 1, 1, 1, 1, 1, 1, 1, 1, 1, 1, 1, 1, 1, 1, 1, 1, 1, 1] rfl (by decide +kernel)) (goodIn_sub (fun _ h => List.mem_cons_of_mem _ (List.mem_append_right _ h)) (by decide +kernel))
set_option maxRecDepth 20000 in
theorem gX4_readers_X4_readersOf : GoodIn wsX4_readers (wsV RX4 111 RX4 yX4_readersOf wsX4_readersOf) := goodIn_app (goodIn_of _ (by decide +kernel)) ggX4_readers_X4_readersOf
set_option maxRecDepth 20000 in
theorem ggX4_readIn_X4_noNotice : GoodIn wsX4_readIn wsX4_noNotice := goodIn_g _ [8, 1, 1, 1, 0, 7, 5, 5, 1, 1, 1, 1, 1, 1, 1, 1, 1, 1, 1, 1, 1, 1, 1, 1, 1, 1, 1, 1, 1] rfl (by decide +kernel)
set_option maxRecDepth 20000 in
theorem gX4_readIn_X4_noNotice : GoodIn wsX4_readIn (wsV RX4 98 RX4 yX4_noNotice wsX4_noNotice) := goodIn_app (goodIn_of _ (by decide +kernel)) ggX4_readIn_X4_noNotice
set_option maxRecDepth 20000 in
theorem ggX4_readIn_X4_fails : GoodIn wsX4_readIn wsX4_fails := goodIn_g _ [16, 0, 2, 15, 1, 1, 1, 1, 1, 1, 1, 1, 1, 1, 1, 1, 1, 1, 1, 1, 1, 1, 1, 1, 1] rfl (by decide +kernel)
set_option maxRecDepth 20000 in
theorem gX4_readIn_X4_fails : GoodIn wsX4_readIn (wsV RX4 84 RX4 yX4_fails wsX4_fails) := goodIn_app (goodIn_of _ (by decide +kernel)) ggX4_readIn_X4_fails
set_option maxRecDepth 20000 in
theorem ggX4_readIn_X4_in : GoodIn wsX4_readIn wsX4_in := goodIn_g _ [12] rfl (by decide +kernel)
set_option maxRecDepth 20000 in
theorem gX4_readIn_X4_in : GoodIn wsX4_readIn (va_wsS RX4 70 yX4_in wsX4_in) := goodIn_app (goodIn_of _ (by decide +kernel)) ggX4_readIn_X4_in
set_option maxRecDepth 20000 in
theorem ggX4_canHaveMade_X4_has : GoodIn wsX4_canHaveMade wsX4_has := goodIn_g _ [6] rfl (by decide +kernel)
set_option maxRecDepth 20000 in
theorem gX4_canHaveMade_X4_has : GoodIn wsX4_canHaveMade (va_wsS RX4 77 yX4_has wsX4_has) := goodIn_app (goodIn_of _ (by decide +kernel)) ggX4_canHaveMade_X4_has
set_option maxRecDepth 20000 in
theorem ggX4_canHaveMade_X4_readersOf : GoodIn wsX4_canHaveMade wsX4_readersOf := goodIn_ca (goodIn_g _ [10, 1, 1, 1, 1, 1, 1, 1, 1, 1, 1, 1, 1, 1, 1, 1, 1, 1, 1, 1, 1, 1, 1, 1, 1, 1] rfl (by decide +kernel)) (goodIn_sub (fun _ h => List.mem_cons_of_mem _ (List.mem_append_right _ h)) (by decide +kernel))
set_option maxRecDepth 20000 in
theorem gX4_canHaveMade_X4_readersOf : GoodIn wsX4_canHaveMade (wsV RX4 111 RX4 yX4_readersOf wsX4_readersOf) := goodIn_app (goodIn_of _ (by decide +kernel)) ggX4_canHaveMade_X4_readersOf
set_option maxRecDepth 20000 in
theorem ggX4_manySuspects_X4_canHaveMade : GoodIn wsX4_manySuspects wsX4_canHaveMade := goodIn_ca (goodIn_g _ [7, 1, 1, 1, 0, 6, 5, 1, 1, 1, 1, 1, 1, 1, 1, 1, 1, 1, 1, 1, 1, 1, 1, 1, 1, 1, 1, 1, 1, 1, 1, 1, 1, 1, 1, 1] rfl (by decide +kernel)) (goodIn_sub (fun _ h => List.mem_cons_of_mem _ (List.mem_append_right _ h)) (by decide +kernel))
set_option maxRecDepth 20000 in
theorem gX4_manySuspects_X4_canHaveMade : GoodIn wsX4_manySuspects (wsV RX4 128 RX4 yX4_canHaveMade wsX4_canHaveMade) := goodIn_app (goodIn_of _ (by decide +kernel)) ggX4_manySuspects_X4_canHaveMade
set_option maxRecDepth 20000 in
theorem ggX4_suspects_X4_noDistrict : GoodIn wsX4_suspects wsX4_noDistrict := goodIn_g _ [6, 1, 1, 0, 5, 4] rfl (by decide +kernel)
set_option maxRecDepth 20000 in
theorem gX4_suspects_X4_noDistrict : GoodIn wsX4_suspects (va_wsS RX4 80 yX4_noDistrict wsX4_noDistrict) := goodIn_app (goodIn_of _ (by decide +kernel)) ggX4_suspects_X4_noDistrict
set_option maxRecDepth 20000 in
theorem ggX4_suspects_X4_fails : GoodIn wsX4_suspects wsX4_fails := goodIn_g _ [13, 0, 2, 32, 1, 1, 1, 1, 1, 1, 1, 1, 1, 1, 1, 1, 1, 1, 1, 1, 1, 1, 1, 1, 1] rfl (by decide +kernel)
set_option maxRecDepth 20000 in
theorem gX4_suspects_X4_fails : GoodIn wsX4_suspects (wsV RX4 84 RX4 yX4_fails wsX4_fails) := goodIn_app (goodIn_of _ (by decide +kernel)) ggX4_suspects_X4_fails
set_option maxRecDepth 20000 in
theorem ggX4_suspects_X4_manySuspects : GoodIn wsX4_suspects wsX4_manySuspects := goodIn_ca (goodIn_g _ [17, 1, 1, 1, 1, 0, 5, 17, 1, 1, 1, 1, 1, 1, 1, 1, 1, 1, 1, 1, 1, 1, 1, 1, 1, 1, 1, 1, 1, 1, 1, 1, 1, 1, 1, 1, 1, 1, 1, 1, 1] rfl (by decide +kernel)) (goodIn_sub (fun _ h => List.mem_cons_of_mem _ (List.mem_append_right _ h)) (by decide +kernel))
set_option maxRecDepth 20000 in
theorem gX4_suspects_X4_manySuspects : GoodIn wsX4_suspects (wsV RX4 131 RX4 yX4_manySuspects wsX4_manySuspects) := goodIn_app (goodIn_of _ (by decide +kernel)) ggX4_suspects_X4_manySuspects
set_option maxRecDepth 20000 in
theorem ggX4_suspectAt_X4_noDistrict : GoodIn wsX4_suspectAt wsX4_noDistrict := goodIn_g _ [7, 1, 1, 0, 6, 4] rfl (by decide +kernel)
set_option maxRecDepth 20000 in
theorem gX4_suspectAt_X4_noDistrict : GoodIn wsX4_suspectAt (va_wsS RX4 80 yX4_noDistrict wsX4_noDistrict) := goodIn_app (goodIn_of _ (by decide +kernel)) ggX4_suspectAt_X4_noDistrict
set_option maxRecDepth 20000 in
theorem ggX4_suspectAt_X4_fails : GoodIn wsX4_suspectAt wsX4_fails := goodIn_g _ [14, 0, 2, 32, 1, 1, 1, 1, 1, 1, 1, 1, 1, 1, 1, 1, 1, 1, 1, 1, 1, 1, 1, 1, 1] rfl (by decide +kernel)
set_option maxRecDepth 20000 in
theorem gX4_suspectAt_X4_fails : GoodIn wsX4_suspectAt (wsV RX4 84 RX4 yX4_fails wsX4_fails) := goodIn_app (goodIn_of _ (by decide +kernel)) ggX4_suspectAt_X4_fails
set_option maxRecDepth 20000 in
theorem ggX4_suspectAt_X4_manySuspects : GoodIn wsX4_suspectAt wsX4_manySuspects := goodIn_ca (goodIn_g _ [18, 0, 3, 16, 1, 1, 0, 6, 16, 1, 1, 1, 1, 1, 1, 1, 1, 1, 1, 1, 1, 1, 1, 1, 1, 1, 1, 1, 1, 1, 1, 1, 1, 1, 1, 1, 1, 1, 1, 1, 1, 1] rfl (by decide +kernel)) (goodIn_sub (fun _ h => List.mem_cons_of_mem _ (List.mem_append_right _ h)) (by decide +kernel))
set_option maxRecDepth 20000 in
theorem gX4_suspectAt_X4_manySuspects : GoodIn wsX4_suspectAt (wsV RX4 131 RX4 yX4_manySuspects wsX4_manySuspects) := goodIn_app (goodIn_of _ (by decide +kernel)) ggX4_suspectAt_X4_manySuspects
set_option maxRecDepth 20000 in
theorem ggX4_suspectAt_X4_in : GoodIn wsX4_suspectAt wsX4_in := goodIn_g _ [10] rfl (by decide +kernel)
set_option maxRecDepth 20000 in
theorem gX4_suspectAt_X4_in : GoodIn wsX4_suspectAt (va_wsS RX4 70 yX4_in wsX4_in) := goodIn_app (goodIn_of _ (by decide +kernel)) ggX4_suspectAt_X4_in
set_option maxRecDepth 20000 in
theorem ggX4_suspectAt_X4_readersOf : GoodIn wsX4_suspectAt wsX4_readersOf := goodIn_ca (goodIn_g _ [30, 1, 1, 1, 1, 1, 1, 1, 1, 1, 1, 1, 1, 1, 1, 1, 1, 1, 1, 1, 1, 1, 1, 1, 1, 1] rfl (by decide +kernel)) (goodIn_sub (fun _ h => List.mem_cons_of_mem _ (List.mem_append_right _ h)) (by decide +kernel))
set_option maxRecDepth 20000 in
theorem gX4_suspectAt_X4_readersOf : GoodIn wsX4_suspectAt (wsV RX4 111 RX4 yX4_readersOf wsX4_readersOf) := goodIn_app (goodIn_of _ (by decide +kernel)) ggX4_suspectAt_X4_readersOf
set_option maxRecDepth 20000 in
theorem ggX4_suspectAt_X4_canHaveMade : GoodIn wsX4_suspectAt wsX4_canHaveMade := goodIn_ca (goodIn_g _ [22, 1, 1, 1, 0, 6, 20, 1, 1, 1, 1, 1, 1, 1, 1, 1, 1, 1, 1, 1, 1, 1, 1, 1, 1, 1, 1, 1, 1, 1, 1, 1, 1, 1, 1, 1] rfl (by decide +kernel)) (goodIn_sub (fun _ h => List.mem_cons_of_mem _ (List.mem_append_right _ h)) (by decide +kernel))
set_option maxRecDepth 20000 in
theorem gX4_suspectAt_X4_canHaveMade : GoodIn wsX4_suspectAt (wsV RX4 128 RX4 yX4_canHaveMade wsX4_canHaveMade) := goodIn_app (goodIn_of _ (by decide +kernel)) ggX4_suspectAt_X4_canHaveMade
set_option maxRecDepth 20000 in
theorem ggX4_wipe_X4_change : GoodIn wsX4_wipe wsX4_change := goodIn_ca (goodIn_g _ [10, 0, 2, 9, 1, 1, 1, 1, 1, 1, 1, 1, 1, 1, 1, 1, 1, 1, 1, 1, 1, 1, 1, 1, 1, 1, 1] rfl (by decide +kernel)) (goodIn_sub (fun _ h => List.mem_cons_of_mem _ (List.mem_append_right _ h)) (by decide +kernel))
set_option maxRecDepth 20000 in
theorem gX4_wipe_X4_change : GoodIn wsX4_wipe (wsV RX4 138 RX4 yX4_change wsX4_change) := goodIn_app (goodIn_of _ (by decide +kernel)) ggX4_wipe_X4_change
set_option maxRecDepth 20000 in
theorem ggX4_differs_X4_has : GoodIn wsX4_differs wsX4_has := goodIn_g _ [6] rfl (by decide +kernel)
set_option maxRecDepth 20000 in
theorem gX4_differs_X4_has : GoodIn wsX4_differs (va_wsS RX4 77 yX4_has wsX4_has) := goodIn_app (goodIn_of _ (by decide +kernel)) ggX4_differs_X4_has
set_option maxRecDepth 20000 in
theorem ggX4_costs_X4_differs : GoodIn wsX4_costs wsX4_differs := goodIn_ca (goodIn_g _ [6, 1, 1, 1, 0, 5, 5, 1, 1, 1, 1, 1, 1, 1, 1, 1, 1, 1, 1, 1, 1, 1, 1, 1, 1, 1, 1, 1, 1] rfl (by decide +kernel)) (goodIn_sub (fun _ h => List.mem_cons_of_mem _ (List.mem_append_right _ h)) (by decide +kernel))
set_option maxRecDepth 20000 in
theorem gX4_costs_X4_differs : GoodIn wsX4_costs (wsV RX4 142 RX4 yX4_differs wsX4_differs) := goodIn_app (goodIn_of _ (by decide +kernel)) ggX4_costs_X4_differs
set_option maxRecDepth 20000 in
theorem ggX4_worstBehind_X4_differs : GoodIn wsX4_worstBehind wsX4_differs := goodIn_ca (goodIn_g _ [7, 1, 1, 1, 0, 6, 5, 4, 1, 1, 1, 1, 1, 1, 1, 1, 1, 1, 1, 1, 1, 1, 1, 1, 1, 1, 1, 1, 1] rfl (by decide +kernel)) (goodIn_sub (fun _ h => List.mem_cons_of_mem _ (List.mem_append_right _ h)) (by decide +kernel))
set_option maxRecDepth 20000 in
theorem gX4_worstBehind_X4_differs : GoodIn wsX4_worstBehind (wsV RX4 142 RX4 yX4_differs wsX4_differs) := goodIn_app (goodIn_of _ (by decide +kernel)) ggX4_worstBehind_X4_differs
set_option maxRecDepth 20000 in
theorem ggX4_worstBehind_X4_most : GoodIn wsX4_worstBehind wsX4_most := goodIn_g _ [14] rfl (by decide +kernel)
set_option maxRecDepth 20000 in
theorem gX4_worstBehind_X4_most : GoodIn wsX4_worstBehind (va_wsS RX4 108 yX4_most wsX4_most) := goodIn_app (goodIn_of _ (by decide +kernel)) ggX4_worstBehind_X4_most
set_option maxRecDepth 20000 in
theorem ggX4_can_X4_costs : GoodIn wsX4_can wsX4_costs := goodIn_ca (goodIn_g _ [8, 1, 1, 1, 0, 7, 5, 1, 1, 1, 1, 4, 1, 1, 1, 1, 1, 1, 1, 1, 1, 1, 1, 1, 1, 1, 1, 1, 1, 1, 1, 1, 1] rfl (by decide +kernel)) (goodIn_sub (fun _ h => List.mem_cons_of_mem _ (List.mem_append_right _ h)) (by decide +kernel))
set_option maxRecDepth 20000 in
theorem gX4_can_X4_costs : GoodIn wsX4_can (wsV RX4 146 RX4 yX4_costs wsX4_costs) := goodIn_app (goodIn_of _ (by decide +kernel)) ggX4_can_X4_costs
set_option maxRecDepth 20000 in
theorem ggX4_can_X4_blacks : GoodIn wsX4_can wsX4_blacks := goodIn_g _ [19, 0, 14, 1, 0, 7, 9] rfl (by decide +kernel)
set_option maxRecDepth 20000 in
theorem gX4_can_X4_blacks : GoodIn wsX4_can (va_wsS RX4 150 yX4_blacks wsX4_blacks) := goodIn_app (goodIn_of _ (by decide +kernel)) ggX4_can_X4_blacks
set_option maxRecDepth 20000 in
theorem ggX4_can_X4_differs : GoodIn wsX4_can wsX4_differs := goodIn_ca (goodIn_g _ [12, 1, 1, 1, 0, 7, 9, 4, 1, 1, 1, 1, 1, 1, 1, 1, 1, 1, 1, 1, 1, 1, 1, 1, 1, 1, 1, 1, 1] rfl (by decide +kernel)) (goodIn_sub (fun _ h => List.mem_cons_of_mem _ (List.mem_append_right _ h)) (by decide +kernel))
set_option maxRecDepth 20000 in
theorem gX4_can_X4_differs : GoodIn wsX4_can (wsV RX4 142 RX4 yX4_differs wsX4_differs) := goodIn_app (goodIn_of _ (by decide +kernel)) ggX4_can_X4_differs
set_option maxRecDepth 20000 in
theorem ggX4_can_X4_has : GoodIn wsX4_can wsX4_has := goodIn_g _ [16] rfl (by decide +kernel)
set_option maxRecDepth 20000 in
theorem gX4_can_X4_has : GoodIn wsX4_can (va_wsS RX4 77 yX4_has wsX4_has) := goodIn_app (goodIn_of _ (by decide +kernel)) ggX4_can_X4_has
set_option maxRecDepth 20000 in
theorem ggX4_shiftFor_X4_can : GoodIn wsX4_shiftFor wsX4_can := goodIn_ca (goodIn_g _ [6, 1, 1, 1, 1, 1, 0, 5, 7, 1, 1, 1, 1, 1, 1, 1, 1, 1, 1, 1, 8, 1, 1, 1, 1, 1, 1, 1, 1, 1, 1, 1, 1, 1, 1, 1, 1, 1, 1, 1, 1, 1] rfl (by decide +kernel)) (goodIn_sub (fun _ h => List.mem_cons_of_mem _ (List.mem_append_right _ h)) (by decide +kernel))
set_option maxRecDepth 20000 in
theorem gX4_shiftFor_X4_can : GoodIn wsX4_shiftFor (wsV RX4 153 RX4 yX4_can wsX4_can) := goodIn_app (goodIn_of _ (by decide +kernel)) ggX4_shiftFor_X4_can
set_option maxRecDepth 20000 in
theorem ggX4_shiftFor_X4_worstBehind : GoodIn wsX4_shiftFor wsX4_worstBehind := goodIn_ca (goodIn_g _ [27, 0, 8, 5, 1, 1, 0, 5, 11, 1, 1, 1, 1, 8, 1, 1, 1, 1, 1, 1, 1, 1, 1, 1, 1, 1, 1, 1, 1, 1, 1, 1, 1, 1, 1, 1, 1, 1] rfl (by decide +kernel)) (goodIn_sub (fun _ h => List.mem_cons_of_mem _ (List.mem_append_right _ h)) (by decide +kernel))
set_option maxRecDepth 20000 in
theorem gX4_shiftFor_X4_worstBehind : GoodIn wsX4_shiftFor (wsV RX4 156 RX4 yX4_worstBehind wsX4_worstBehind) := goodIn_app (goodIn_of _ (by decide +kernel)) ggX4_shiftFor_X4_worstBehind
set_option maxRecDepth 20000 in
theorem ggX4_shiftFor_X4_costs : GoodIn wsX4_shiftFor wsX4_costs := goodIn_ca (goodIn_g _ [12, 1, 1, 1, 0, 5, 11, 1, 1, 1, 1, 11, 1, 1, 1, 1, 1, 1, 1, 1, 1, 1, 1, 1, 1, 1, 1, 1, 1, 1, 1, 1, 1] rfl (by decide +kernel)) (goodIn_sub (fun _ h => List.mem_cons_of_mem _ (List.mem_append_right _ h)) (by decide +kernel))
set_option maxRecDepth 20000 in
theorem gX4_shiftFor_X4_costs : GoodIn wsX4_shiftFor (wsV RX4 146 RX4 yX4_costs wsX4_costs) := goodIn_app (goodIn_of _ (by decide +kernel)) ggX4_shiftFor_X4_costs
set_option maxRecDepth 20000 in
theorem ggX4_show_X4_differs : GoodIn wsX4_show wsX4_differs := goodIn_ca (goodIn_g _ [10, 1, 1, 1, 0, 9, 5, 7, 1, 1, 1, 1, 1, 1, 1, 1, 1, 1, 1, 1, 1, 1, 1, 1, 1, 1, 1, 1, 1] rfl (by decide +kernel)) (goodIn_sub (fun _ h => List.mem_cons_of_mem _ (List.mem_append_right _ h)) (by decide +kernel))
set_option maxRecDepth 20000 in
theorem gX4_show_X4_differs : GoodIn wsX4_show (wsV RX4 142 RX4 yX4_differs wsX4_differs) := goodIn_app (goodIn_of _ (by decide +kernel)) ggX4_show_X4_differs
set_option maxRecDepth 20000 in
theorem ggX4_show_X4_change : GoodIn wsX4_show wsX4_change := goodIn_ca (goodIn_g _ [18, 0, 11, 8, 1, 1, 1, 1, 1, 1, 1, 1, 1, 1, 1, 1, 1, 1, 1, 1, 1, 1, 1, 1, 1, 1, 1] rfl (by decide +kernel)) (goodIn_sub (fun _ h => List.mem_cons_of_mem _ (List.mem_append_right _ h)) (by decide +kernel))
set_option maxRecDepth 20000 in
theorem gX4_show_X4_change : GoodIn wsX4_show (wsV RX4 138 RX4 yX4_change wsX4_change) := goodIn_app (goodIn_of _ (by decide +kernel)) ggX4_show_X4_change
set_option maxRecDepth 20000 in
theorem ggX4_choose_X4_manyQueued : GoodIn wsX4_choose wsX4_manyQueued := goodIn_ca (goodIn_g _ [10, 1, 1, 1, 1, 0, 9, 6, 1, 1, 1, 57, 1, 1, 1, 1, 1, 1, 1, 1, 1, 1, 1, 1, 1, 1, 1, 1, 1, 1, 1, 1, 1] rfl (by decide +kernel)) (goodIn_sub (fun _ h => List.mem_cons_of_mem _ (List.mem_append_right _ h)) (by decide +kernel))
set_option maxRecDepth 20000 in
theorem gX4_choose_X4_manyQueued : GoodIn wsX4_choose (wsV RX4 118 RX4 yX4_manyQueued wsX4_manyQueued) := goodIn_app (goodIn_of _ (by decide +kernel)) ggX4_choose_X4_manyQueued
set_option maxRecDepth 20000 in
theorem ggX4_choose_X4_inQueue : GoodIn wsX4_choose wsX4_inQueue := goodIn_ca (goodIn_g _ [22, 0, 11, 12, 0, 12, 1, 1, 0, 9, 6, 1, 1, 1, 57, 1, 1, 1, 1, 1, 1, 1, 1, 1, 1, 1, 1, 1, 1, 1, 1, 1, 1, 1, 1, 1] rfl (by decide +kernel)) (goodIn_sub (fun _ h => List.mem_cons_of_mem _ (List.mem_append_right _ h)) (by decide +kernel))
set_option maxRecDepth 20000 in
theorem gX4_choose_X4_inQueue : GoodIn wsX4_choose (wsV RX4 122 RX4 yX4_inQueue wsX4_inQueue) := goodIn_app (goodIn_of _ (by decide +kernel)) ggX4_choose_X4_inQueue
set_option maxRecDepth 20000 in
theorem ggX4_choose_X4_dueNow : GoodIn wsX4_choose wsX4_dueNow := goodIn_ca (goodIn_g _ [27, 0, 17, 11, 0, 18, 57, 1, 1, 1, 1, 1, 1, 1, 1, 1, 1, 1, 1, 1, 1, 1, 1, 1, 1, 1, 1, 1] rfl (by decide +kernel)) (goodIn_sub (fun _ h => List.mem_cons_of_mem _ (List.mem_append_right _ h)) (by decide +kernel))
set_option maxRecDepth 20000 in
theorem gX4_choose_X4_dueNow : GoodIn wsX4_choose (wsV RX4 125 RX4 yX4_dueNow wsX4_dueNow) := goodIn_app (goodIn_of _ (by decide +kernel)) ggX4_choose_X4_dueNow
set_option maxRecDepth 20000 in
theorem ggX4_choose_X4_shiftFor : GoodIn wsX4_choose wsX4_shiftFor := goodIn_ca (goodIn_g _ [32, 1, 1, 1, 0, 9, 27, 1, 1, 1, 1, 1, 1, 1, 1, 1, 1, 1, 1, 1, 1, 1, 1, 1, 1, 1, 1, 1, 1, 1, 1, 15, 1, 1, 1, 1, 1, 1, 1, 1, 1, 1, 1, 1, 1, 1, 1, 1, 1, 1, 1, 1, 1] rfl (by decide +kernel)) (goodIn_sub (fun _ h => List.mem_cons_of_mem _ (List.mem_append_right _ h)) (by decide +kernel))
set_option maxRecDepth 20000 in
theorem gX4_choose_X4_shiftFor : GoodIn wsX4_choose (wsV RX4 159 RX4 yX4_shiftFor wsX4_shiftFor) := goodIn_app (goodIn_of _ (by decide +kernel)) ggX4_choose_X4_shiftFor
set_option maxRecDepth 20000 in
theorem ggX4_choose_X4_show : GoodIn wsX4_choose wsX4_show := goodIn_ca (goodIn_g _ [64, 0, 5, 32, 0, 4, 61, 0, 43, 1, 1, 0, 9, 37, 1, 1, 1, 1, 16, 1, 1, 1, 0, 38, 32, 5, 1, 1, 1, 1, 1, 1, 1, 1, 1, 1, 1, 1, 1, 1, 1, 1, 1, 1, 1, 1, 1] rfl (by decide +kernel)) (goodIn_sub (fun _ h => List.mem_cons_of_mem _ (List.mem_append_right _ h)) (by decide +kernel))
set_option maxRecDepth 20000 in
theorem gX4_choose_X4_show : GoodIn wsX4_choose (wsV RX4 162 RX4 yX4_show wsX4_show) := goodIn_app (goodIn_of _ (by decide +kernel)) ggX4_choose_X4_show
set_option maxRecDepth 20000 in
theorem ggX4_choose_X4_wipe : GoodIn wsX4_choose wsX4_wipe := goodIn_ca (goodIn_g _ [74, 0, 47, 0, 37, 0, 4, 61, 1, 1, 1, 0, 9, 60, 0, 38, 32, 5, 1, 1, 1, 1, 1, 1, 1, 1, 1, 1, 1, 1, 1, 1, 1, 1, 1, 1, 1, 1, 1] rfl (by decide +kernel)) (goodIn_sub (fun _ h => List.mem_cons_of_mem _ (List.mem_append_right _ h)) (by decide +kernel))
set_option maxRecDepth 20000 in
theorem gX4_choose_X4_wipe : GoodIn wsX4_choose (wsV RX4 166 RX4 yX4_wipe wsX4_wipe) := goodIn_app (goodIn_of _ (by decide +kernel)) ggX4_choose_X4_wipe
set_option maxRecDepth 20000 in
theorem ggX4_go_X4_in : GoodIn wsX4_go wsX4_in := goodIn_g _ [12] rfl (by decide +kernel)
set_option maxRecDepth 20000 in
theorem gX4_go_X4_in : GoodIn wsX4_go (va_wsS RX4 70 yX4_in wsX4_in) := goodIn_app (goodIn_of _ (by decide +kernel)) ggX4_go_X4_in
set_option maxRecDepth 20000 in
theorem ggX4_go_X4_fails : GoodIn wsX4_go wsX4_fails := goodIn_g _ [16, 0, 2, 90, 1, 1, 1, 1, 1, 1, 1, 1, 1, 1, 1, 1, 1, 1, 1, 1, 1, 1, 1, 1, 1] rfl (by decide +kernel)
set_option maxRecDepth 20000 in
theorem gX4_go_X4_fails : GoodIn wsX4_go (wsV RX4 84 RX4 yX4_fails wsX4_fails) := goodIn_app (goodIn_of _ (by decide +kernel)) ggX4_go_X4_fails
set_option maxRecDepth 20000 in
theorem ggX4_go_X4_least : GoodIn wsX4_go wsX4_least := goodIn_g _ [19] rfl (by decide +kernel)
set_option maxRecDepth 20000 in
theorem gX4_go_X4_least : GoodIn wsX4_go (va_wsS RX4 104 yX4_least wsX4_least) := goodIn_app (goodIn_of _ (by decide +kernel)) ggX4_go_X4_least
set_option maxRecDepth 20000 in
theorem ggX4_go_X4_wipe : GoodIn wsX4_go wsX4_wipe := goodIn_ca (goodIn_g _ [23, 1, 0, 5, 2, 18, 1, 1, 1, 0, 11, 18, 1, 1, 61, 1, 1, 1, 1, 1, 1, 1, 1, 1, 1, 1, 1, 1, 1, 1, 1, 1, 1, 1, 1, 1] rfl (by decide +kernel)) (goodIn_sub (fun _ h => List.mem_cons_of_mem _ (List.mem_append_right _ h)) (by decide +kernel))
set_option maxRecDepth 20000 in
theorem gX4_go_X4_wipe : GoodIn wsX4_go (wsV RX4 166 RX4 yX4_wipe wsX4_wipe) := goodIn_app (goodIn_of _ (by decide +kernel)) ggX4_go_X4_wipe
set_option maxRecDepth 20000 in
theorem ggX4_go_X4_choose : GoodIn wsX4_go wsX4_choose := goodIn_ca (goodIn_g _ [35, 1, 1, 0, 7, 31, 1, 1, 1, 0, 11, 31, 1, 1, 1, 1, 1, 1, 0, 3, 5, 41, 1, 1, 1, 1, 1, 1, 1, 1, 1, 1, 1, 1, 1, 1, 1, 1, 1, 0, 5, 25, 37, 1, 1, 1, 1, 1, 1, 1, 0, 24, 51, 1, 1, 1, 1, 1, 1, 1, 1, 1, 1, 1, 1, 1, 1, 1, 1, 0, 25, 1, 1, 1, 1, 2, 0, 20, 1, 1, 1, 69, 1, 1, 1, 1, 1, 1, 1, 1, 1, 1, 1, 1, 1, 1, 1, 1, 1, 1, 1, 1, 1] rfl (by decide +kernel)) (goodIn_sub (fun _ h => List.mem_cons_of_mem _ (List.mem_append_right _ h)) (by decide +kernel))
set_option maxRecDepth 20000 in
theorem gX4_go_X4_choose : GoodIn wsX4_go (wsV RX4 169 RX4 yX4_choose wsX4_choose) := goodIn_app (goodIn_of _ (by decide +kernel)) ggX4_go_X4_choose
set_option maxRecDepth 20000 in
theorem ggX4_cellAnew_X4_cell : GoodIn wsX4_cellAnew wsX4_cell := goodIn_ca (goodIn_g _ [6, 1, 1, 1, 1, 1, 0, 5, 7, 1, 1, 1, 1, 1, 1, 1, 1, 1, 1, 1, 1, 1, 1, 1, 1, 1, 1, 1, 1, 1, 1, 1, 1, 1, 1, 1, 1, 1, 1, 1, 1, 1, 1] rfl (by decide +kernel)) (goodIn_sub (fun _ h => List.mem_cons_of_mem _ (List.mem_append_right _ h)) (by decide +kernel))
set_option maxRecDepth 20000 in
theorem gX4_cellAnew_X4_cell : GoodIn wsX4_cellAnew (wsV RX4 172 RX4 yX4_cell wsX4_cell) := goodIn_app (goodIn_of _ (by decide +kernel)) ggX4_cellAnew_X4_cell
set_option maxRecDepth 20000 in
theorem ggX4_worst_X4_noBoard : GoodIn wsX4_worst wsX4_noBoard := goodIn_g _ [8, 1, 1, 1, 0, 7, 5, 8, 1, 1, 1, 1, 1, 1, 1, 1, 1, 1, 1, 1, 1, 1, 1, 1, 1, 1, 1, 1, 1] rfl (by decide +kernel)
set_option maxRecDepth 20000 in
theorem gX4_worst_X4_noBoard : GoodIn wsX4_worst (wsV RX4 88 RX4 yX4_noBoard wsX4_noBoard) := goodIn_app (goodIn_of _ (by decide +kernel)) ggX4_worst_X4_noBoard
set_option maxRecDepth 20000 in
theorem ggX4_worst_X4_fails : GoodIn wsX4_worst wsX4_fails := goodIn_g _ [16, 0, 2, 18, 1, 1, 1, 1, 1, 1, 1, 1, 1, 1, 1, 1, 1, 1, 1, 1, 1, 1, 1, 1, 1] rfl (by decide +kernel)
set_option maxRecDepth 20000 in
theorem gX4_worst_X4_fails : GoodIn wsX4_worst (wsV RX4 84 RX4 yX4_fails wsX4_fails) := goodIn_app (goodIn_of _ (by decide +kernel)) ggX4_worst_X4_fails
set_option maxRecDepth 20000 in
theorem ggX4_worst_X4_most : GoodIn wsX4_worst wsX4_most := goodIn_g _ [19] rfl (by decide +kernel)
set_option maxRecDepth 20000 in
theorem gX4_worst_X4_most : GoodIn wsX4_worst (va_wsS RX4 108 yX4_most wsX4_most) := goodIn_app (goodIn_of _ (by decide +kernel)) ggX4_worst_X4_most
set_option maxRecDepth 20000 in
theorem ggX4_shownShare_X4_fails : GoodIn wsX4_shownShare wsX4_fails := goodIn_g _ [9, 0, 2, 8, 1, 1, 1, 1, 1, 1, 1, 1, 1, 1, 1, 1, 1, 1, 1, 1, 1, 1, 1, 1, 1] rfl (by decide +kernel)
set_option maxRecDepth 20000 in
theorem gX4_shownShare_X4_fails : GoodIn wsX4_shownShare (wsV RX4 84 RX4 yX4_fails wsX4_fails) := goodIn_app (goodIn_of _ (by decide +kernel)) ggX4_shownShare_X4_fails
set_option maxRecDepth 20000 in
theorem ggX4_meanWear_X4_fails : GoodIn wsX4_meanWear wsX4_fails := goodIn_g _ [9, 0, 2, 8, 1, 1, 1, 1, 1, 1, 1, 1, 1, 1, 1, 1, 1, 1, 1, 1, 1, 1, 1, 1, 1] rfl (by decide +kernel)
set_option maxRecDepth 20000 in
theorem gX4_meanWear_X4_fails : GoodIn wsX4_meanWear (wsV RX4 84 RX4 yX4_fails wsX4_fails) := goodIn_app (goodIn_of _ (by decide +kernel)) ggX4_meanWear_X4_fails
set_option maxRecDepth 20000 in
theorem ggL_addBoard_X3_addBoard : GoodIn wsL_addBoard wsX3_addBoard := goodIn_ca (goodIn_ca (goodIn_g _ [7, 1, 1, 1, 1, 1, 1, 1, 1, 0, 6, 10, 1, 1, 1, 1, 1, 1, 1, 1, 1, 1, 1, 1, 1, 1, 1, 1, 1, 1, 1, 1, 1, 1, 1, 1, 1, 1, 1] rfl (by decide +kernel)) (goodIn_sub (fun _ h => List.mem_cons_of_mem _ (List.mem_append_left _ (List.mem_append_right _ h))) (by decide +kernel))) (goodIn_sub (fun _ h => List.mem_cons_of_mem _ (List.mem_append_right _ h)) (by decide +kernel))
set_option maxRecDepth 20000 in
theorem gL_addBoard_X3_addBoard : GoodIn wsL_addBoard (wsV RL 7 RX3 yX3_addBoard wsX3_addBoard) := goodIn_app (goodIn_of _ (by decide +kernel)) ggL_addBoard_X3_addBoard
set_option maxRecDepth 20000 in
theorem ggL_setSun_X3_setSun : GoodIn wsL_setSun wsX3_setSun := goodIn_ca (goodIn_g _ [7, 1, 1, 1, 1, 1, 1, 1, 1, 1, 1, 1] rfl (by decide +kernel)) (goodIn_sub (fun _ h => List.mem_cons_of_mem _ (List.mem_append_right _ h)) (by decide +kernel))
set_option maxRecDepth 20000 in
theorem gL_setSun_X3_setSun : GoodIn wsL_setSun (wsV RL 17 RX3 yX3_setSun wsX3_setSun) := goodIn_app (goodIn_of _ (by decide +kernel)) ggL_setSun_X3_setSun
set_option maxRecDepth 20000 in
theorem ggL_charge_X3_charge : GoodIn wsL_charge wsX3_charge := goodIn_ca (goodIn_g _ [7, 1, 1, 1, 0, 6, 5, 1, 1, 1, 1, 1, 1, 1, 1, 1, 1, 1, 1, 1, 1, 1, 1, 1, 1, 1, 1, 1, 1, 1, 1] rfl (by decide +kernel)) (goodIn_sub (fun _ h => List.mem_cons_of_mem _ (List.mem_append_right _ h)) (by decide +kernel))
set_option maxRecDepth 20000 in
theorem gL_charge_X3_charge : GoodIn wsL_charge (wsV RL 21 RX3 yX3_charge wsX3_charge) := goodIn_app (goodIn_of _ (by decide +kernel)) ggL_charge_X3_charge
set_option maxRecDepth 20000 in
theorem ggL_cell_X3_cell : GoodIn wsL_cell wsX3_cell := goodIn_ca (goodIn_g _ [7, 1, 1, 1, 0, 6, 5, 1, 1, 1, 1, 1, 1, 1, 1, 1, 1, 1, 1, 1, 1, 1, 1, 1, 1, 1, 1, 1, 1, 1, 1, 1, 1, 1, 1, 1, 1] rfl (by decide +kernel)) (goodIn_sub (fun _ h => List.mem_cons_of_mem _ (List.mem_append_right _ h)) (by decide +kernel))
set_option maxRecDepth 20000 in
theorem gL_cell_X3_cell : GoodIn wsL_cell (wsV RL 26 RX3 yX3_cell wsX3_cell) := goodIn_app (goodIn_of _ (by decide +kernel)) ggL_cell_X3_cell
set_option maxRecDepth 20000 in
theorem ggL_wear_X3_wear : GoodIn wsL_wear wsX3_wear := goodIn_ca (goodIn_ca (goodIn_g _ [7, 1, 1, 1, 0, 6, 5, 1, 1, 1, 1, 1, 1, 1, 1, 1, 1, 1, 1, 1, 1, 1, 1, 1, 1, 1, 1, 1, 1, 1, 1, 1, 1, 1, 1, 1, 1, 1, 1, 1] rfl (by decide +kernel)) (goodIn_sub (fun _ h => List.mem_cons_of_mem _ (List.mem_append_right _ h)) (by decide +kernel))) (goodIn_sub (fun _ h => List.mem_cons_of_mem _ (List.mem_append_left _ (List.mem_append_right _ h))) (by decide +kernel))
set_option maxRecDepth 20000 in
theorem gL_wear_X3_wear : GoodIn wsL_wear (wsV RL 30 RX3 yX3_wear wsX3_wear) := goodIn_app (goodIn_of _ (by decide +kernel)) ggL_wear_X3_wear
set_option maxRecDepth 20000 in
theorem ggL_shows_X3_shows : GoodIn wsL_shows wsX3_shows := goodIn_ca (goodIn_g _ [7, 1, 1, 1, 0, 6, 5, 1, 1, 1, 1, 1, 1, 1, 1, 1, 1, 1, 1, 1, 1, 1, 1, 1, 1, 1, 1, 1, 1, 1, 1, 1, 1, 1, 1, 1, 1, 1, 1, 1] rfl (by decide +kernel)) (goodIn_sub (fun _ h => List.mem_cons_of_mem _ (List.mem_append_right _ h)) (by decide +kernel))
set_option maxRecDepth 20000 in
theorem gL_shows_X3_shows : GoodIn wsL_shows (wsV RL 33 RX3 yX3_shows wsX3_shows) := goodIn_app (goodIn_of _ (by decide +kernel)) ggL_shows_X3_shows
set_option maxRecDepth 20000 in
theorem ggL_shift_X3_shift : GoodIn wsL_shift wsX3_shift := goodIn_ca (goodIn_g _ [7, 1, 1, 1, 0, 6, 5, 1, 1, 1, 1, 1, 1, 1, 1, 1, 1, 1, 1, 1, 1, 1, 1, 1, 1, 1, 1, 1, 1, 1, 1] rfl (by decide +kernel)) (goodIn_sub (fun _ h => List.mem_cons_of_mem _ (List.mem_append_right _ h)) (by decide +kernel))
set_option maxRecDepth 20000 in
theorem gL_shift_X3_shift : GoodIn wsL_shift (wsV RL 36 RX3 yX3_shift wsX3_shift) := goodIn_app (goodIn_of _ (by decide +kernel)) ggL_shift_X3_shift
set_option maxRecDepth 20000 in
theorem ggL_sleeps_X3_sleeps : GoodIn wsL_sleeps wsX3_sleeps := goodIn_ca (goodIn_g _ [7, 1, 1, 1, 0, 6, 5, 1, 1, 1, 1, 1, 1, 1, 1, 1, 1, 1, 1, 1, 1, 1, 1, 1, 1, 1, 1, 1, 1, 1, 1] rfl (by decide +kernel)) (goodIn_sub (fun _ h => List.mem_cons_of_mem _ (List.mem_append_right _ h)) (by decide +kernel))
set_option maxRecDepth 20000 in
theorem gL_sleeps_X3_sleeps : GoodIn wsL_sleeps (wsV RL 39 RX3 yX3_sleeps wsX3_sleeps) := goodIn_app (goodIn_of _ (by decide +kernel)) ggL_sleeps_X3_sleeps
set_option maxRecDepth 20000 in
theorem ggL_post_X3_post : GoodIn wsL_post wsX3_post := goodIn_ca (goodIn_ca (goodIn_g _ [7, 1, 1, 1, 1, 1, 0, 6, 7, 1, 1, 1, 1, 1, 1, 1, 1, 1, 1, 1, 1, 1, 1, 1, 1, 1, 1, 1, 1, 1, 1, 1, 1, 1, 1, 1, 1, 1, 1, 1] rfl (by decide +kernel)) (goodIn_sub (fun _ h => List.mem_cons_of_mem _ (List.mem_append_left _ (List.mem_append_right _ h))) (by decide +kernel))) (goodIn_sub (fun _ h => List.mem_cons_of_mem _ (List.mem_append_right _ h)) (by decide +kernel))
set_option maxRecDepth 20000 in
theorem gL_post_X3_post : GoodIn wsL_post (wsV RL 43 RX3 yX3_post wsX3_post) := goodIn_app (goodIn_of _ (by decide +kernel)) ggL_post_X3_post
set_option maxRecDepth 20000 in
theorem ggL_queue_X3_queue : GoodIn wsL_queue wsX3_queue := goodIn_ca (goodIn_ca (goodIn_ca (goodIn_g _ [7, 1, 1, 1, 1, 1, 1, 0, 6, 8, 1, 1, 1, 1, 1, 1, 1, 1, 1, 1, 1, 1, 1, 1, 1, 1, 1, 1, 1, 1, 1, 1, 1, 1, 1, 1, 1, 1, 1, 1, 1, 1, 1, 1, 1, 1, 1, 1, 1, 1, 1, 1, 1] rfl (by decide +kernel)) (goodIn_sub (fun _ h => List.mem_cons_of_mem _ (List.mem_append_left _ (List.mem_append_left _ (List.mem_append_right _ h)))) (by decide +kernel))) (goodIn_sub (fun _ h => List.mem_cons_of_mem _ (List.mem_append_left _ (List.mem_append_right _ h))) (by decide +kernel))) (goodIn_sub (fun _ h => List.mem_cons_of_mem _ (List.mem_append_right _ h)) (by decide +kernel))
set_option maxRecDepth 20000 in
theorem gL_queue_X3_queue : GoodIn wsL_queue (wsV RL 47 RX3 yX3_queue wsX3_queue) := goodIn_app (goodIn_of _ (by decide +kernel)) ggL_queue_X3_queue
set_option maxRecDepth 20000 in
theorem ggL_takeBack_X3_takeBack : GoodIn wsL_takeBack wsX3_takeBack := goodIn_ca (goodIn_ca (goodIn_ca (goodIn_g _ [7, 1, 1, 1, 1, 1, 1, 1, 1, 0, 6, 10, 1, 1, 1, 1, 1, 1, 1, 1, 1, 1, 1, 1, 1, 1, 1, 1, 1, 1, 1, 1, 1, 1, 1, 1, 1, 1, 1, 1, 1, 1, 1, 1, 1, 1, 1, 1, 1, 1, 1] rfl (by decide +kernel)) (goodIn_sub (fun _ h => List.mem_cons_of_mem _ (List.mem_append_left _ (List.mem_append_left _ (List.mem_append_right _ h)))) (by decide +kernel))) (goodIn_sub (fun _ h => List.mem_cons_of_mem _ (List.mem_append_left _ (List.mem_append_right _ h))) (by decide +kernel))) (goodIn_sub (fun _ h => List.mem_cons_of_mem _ (List.mem_append_right _ h)) (by decide +kernel))
set_option maxRecDepth 20000 in
theorem gL_takeBack_X3_takeBack : GoodIn wsL_takeBack (wsV RL 53 RX3 yX3_takeBack wsX3_takeBack) := goodIn_app (goodIn_of _ (by decide +kernel)) ggL_takeBack_X3_takeBack
set_option maxRecDepth 20000 in
theorem ggL_mend_X3_mend : GoodIn wsL_mend wsX3_mend := goodIn_ca (goodIn_ca (goodIn_ca (goodIn_ca (goodIn_ca (goodIn_g _ [7, 1, 1, 1, 1, 1, 1, 1, 1, 1, 1, 1, 1, 1, 1, 1, 0, 6, 17, 1, 1, 1, 1, 1, 1, 1, 1, 1, 1, 1, 1, 1, 1, 1, 1, 1, 1, 1, 1, 1, 1, 1, 1, 1, 1, 1, 1, 1, 1, 1, 1, 1, 1, 1, 1, 1, 1, 1, 1, 1, 1, 1, 1, 1, 1, 1, 1, 1, 1, 1, 1, 1, 1, 1, 1, 1, 1, 1, 1, 1, 1, 1, 1, 1, 1, 1, 1, 1, 1, 1, 1, 1, 1, 1] rfl (by decide +kernel)) (goodIn_sub (fun _ h => List.mem_cons_of_mem _ (List.mem_append_left _ (List.mem_append_left _ (List.mem_append_left _ (List.mem_append_right _ h))))) (by decide +kernel))) (goodIn_sub (fun _ h => List.mem_cons_of_mem _ (List.mem_append_left _ (List.mem_append_left _ (List.mem_append_right _ h)))) (by decide +kernel))) (goodIn_sub (fun _ h => List.mem_cons_of_mem _ (List.mem_append_left _ (List.mem_append_right _ h))) (by decide +kernel))) (goodIn_sub (fun _ h => List.mem_cons_of_mem _ (List.mem_append_right _ h)) (by decide +kernel))) (goodIn_sub (fun _ h => List.mem_cons_of_mem _ (List.mem_append_left _ (List.mem_append_left _ (List.mem_append_left _ (List.mem_append_left _ (List.mem_append_right _ h)))))) (by decide +kernel))
set_option maxRecDepth 20000 in
theorem gL_mend_X3_mend : GoodIn wsL_mend (wsV RL 56 RX3 yX3_mend wsX3_mend) := goodIn_app (goodIn_of _ (by decide +kernel)) ggL_mend_X3_mend
set_option maxRecDepth 20000 in
theorem ggL_deny_X3_deny : GoodIn wsL_deny wsX3_deny := goodIn_ca (goodIn_ca (goodIn_g _ [7, 1, 1, 1, 1, 1, 0, 6, 7, 1, 1, 1, 1, 1, 1, 1, 1, 1, 1, 1, 1, 1, 1, 1, 1, 1, 1, 1, 1, 1, 1, 1, 1, 1, 1, 1, 1, 1, 1, 1, 1, 1, 1, 1, 1, 1, 1, 1, 1] rfl (by decide +kernel)) (goodIn_sub (fun _ h => List.mem_cons_of_mem _ (List.mem_append_left _ (List.mem_append_right _ h))) (by decide +kernel))) (goodIn_sub (fun _ h => List.mem_cons_of_mem _ (List.mem_append_right _ h)) (by decide +kernel))
set_option maxRecDepth 20000 in
theorem gL_deny_X3_deny : GoodIn wsL_deny (wsV RL 59 RX3 yX3_deny wsX3_deny) := goodIn_app (goodIn_of _ (by decide +kernel)) ggL_deny_X3_deny
set_option maxRecDepth 20000 in
theorem ggL_queued_X3_queued : GoodIn wsL_queued wsX3_queued := goodIn_ca (goodIn_g _ [7, 1, 1, 1, 1, 1, 0, 6, 7, 1, 1, 1, 1, 1, 1, 1, 1, 1, 1, 1, 1, 1, 1, 1, 1, 1, 1, 1, 1, 1, 1, 1, 1, 1, 1, 1, 1, 1, 1, 1, 1] rfl (by decide +kernel)) (goodIn_sub (fun _ h => List.mem_cons_of_mem _ (List.mem_append_right _ h)) (by decide +kernel))
set_option maxRecDepth 20000 in
theorem gL_queued_X3_queued : GoodIn wsL_queued (wsV RL 62 RX3 yX3_queued wsX3_queued) := goodIn_app (goodIn_of _ (by decide +kernel)) ggL_queued_X3_queued
set_option maxRecDepth 20000 in
theorem ggL_queuedAt_X3_queuedAt : GoodIn wsL_queuedAt wsX3_queuedAt := goodIn_ca (goodIn_ca (goodIn_g _ [7, 1, 1, 1, 1, 1, 1, 1, 0, 6, 9, 1, 1, 1, 1, 1, 1, 1, 1, 1, 1, 1, 1, 1, 1, 1, 1, 1, 1, 1, 1, 1, 1, 1, 1, 1, 1, 1, 1, 1, 1, 1, 1] rfl (by decide +kernel)) (goodIn_sub (fun _ h => List.mem_cons_of_mem _ (List.mem_append_left _ (List.mem_append_right _ h))) (by decide +kernel))) (goodIn_sub (fun _ h => List.mem_cons_of_mem _ (List.mem_append_right _ h)) (by decide +kernel))
set_option maxRecDepth 20000 in
theorem gL_queuedAt_X3_queuedAt : GoodIn wsL_queuedAt (wsV RL 65 RX3 yX3_queuedAt wsX3_queuedAt) := goodIn_app (goodIn_of _ (by decide +kernel)) ggL_queuedAt_X3_queuedAt
set_option maxRecDepth 20000 in
theorem ggL_isDue_X3_isDue : GoodIn wsL_isDue wsX3_isDue := goodIn_ca (goodIn_g _ [7, 1, 1, 1, 1, 0, 6, 6, 1, 1, 1, 1, 1, 1, 1, 1, 1, 1, 1, 1, 1, 1, 1, 1, 1, 1, 1, 1, 1, 1, 1, 1, 1, 1, 1, 1] rfl (by decide +kernel)) (goodIn_sub (fun _ h => List.mem_cons_of_mem _ (List.mem_append_right _ h)) (by decide +kernel))
set_option maxRecDepth 20000 in
theorem gL_isDue_X3_isDue : GoodIn wsL_isDue (wsV RL 68 RX3 yX3_isDue wsX3_isDue) := goodIn_app (goodIn_of _ (by decide +kernel)) ggL_isDue_X3_isDue
set_option maxRecDepth 20000 in
theorem ggL_pass_X3_pass : GoodIn wsL_pass wsX3_pass := goodIn_ca (goodIn_ca (goodIn_ca (goodIn_g _ [7, 1, 1, 1, 1, 1, 1, 1, 0, 6, 9, 1, 1, 1, 1, 1, 1, 1, 1, 1, 1, 1, 1, 1, 1, 1, 1, 1, 1, 1, 1, 1, 1, 1, 1, 1, 1, 1, 1, 1, 1, 1, 1, 1, 1, 1, 1, 1, 1, 1, 1, 1, 1, 1, 1, 1, 1, 1, 1, 1, 1] rfl (by decide +kernel)) (goodIn_sub (fun _ h => List.mem_cons_of_mem _ (List.mem_append_left _ (List.mem_append_right _ h))) (by decide +kernel))) (goodIn_sub (fun _ h => List.mem_cons_of_mem _ (List.mem_append_left _ (List.mem_append_left _ (List.mem_append_right _ h)))) (by decide +kernel))) (goodIn_sub (fun _ h => List.mem_cons_of_mem _ (List.mem_append_right _ h)) (by decide +kernel))
set_option maxRecDepth 20000 in
theorem gL_pass_X3_pass : GoodIn wsL_pass (wsV RL 71 RX3 yX3_pass wsX3_pass) := goodIn_app (goodIn_of _ (by decide +kernel)) ggL_pass_X3_pass
set_option maxRecDepth 20000 in
theorem ggL_readers_X3_readers : GoodIn wsL_readers wsX3_readers := goodIn_ca (goodIn_ca (goodIn_ca (goodIn_g _ [7, 1, 1, 1, 0, 6, 5, 1, 1, 1, 1, 1, 1, 1, 1, 1, 1, 1, 1, 1, 1, 1, 1, 1, 1, 1, 1, 1, 1, 1, 1, 1, 1, 1, 1, 1, 1, 1, 1, 1, 1, 1, 1, 1, 1, 1, 1, 1, 1, 1, 1] rfl (by decide +kernel)) (goodIn_sub (fun _ h => List.mem_cons_of_mem _ (List.mem_append_left _ (List.mem_append_right _ h))) (by decide +kernel))) (goodIn_sub (fun _ h => List.mem_cons_of_mem _ (List.mem_append_right _ h)) (by decide +kernel))) (goodIn_sub (fun _ h => List.mem_cons_of_mem _ (List.mem_append_left _ (List.mem_append_left _ (List.mem_append_right _ h)))) (by decide +kernel))
set_option maxRecDepth 20000 in
theorem gL_readers_X3_readers : GoodIn wsL_readers (wsV RL 74 RX3 yX3_readers wsX3_readers) := goodIn_app (goodIn_of _ (by decide +kernel)) ggL_readers_X3_readers
set_option maxRecDepth 20000 in
theorem ggL_readIn_X3_readIn : GoodIn wsL_readIn wsX3_readIn := goodIn_ca (goodIn_ca (goodIn_g _ [7, 1, 1, 1, 1, 0, 6, 6, 1, 1, 1, 1, 1, 1, 1, 1, 1, 1, 1, 1, 1, 1, 1, 1, 1, 1, 1, 1, 1, 1, 1, 1, 1, 1, 1, 1, 1, 1, 1, 1, 1, 1, 1, 1, 1, 1] rfl (by decide +kernel)) (goodIn_sub (fun _ h => List.mem_cons_of_mem _ (List.mem_append_right _ h)) (by decide +kernel))) (goodIn_sub (fun _ h => List.mem_cons_of_mem _ (List.mem_append_left _ (List.mem_append_right _ h))) (by decide +kernel))
set_option maxRecDepth 20000 in
theorem gL_readIn_X3_readIn : GoodIn wsL_readIn (wsV RL 77 RX3 yX3_readIn wsX3_readIn) := goodIn_app (goodIn_of _ (by decide +kernel)) ggL_readIn_X3_readIn
set_option maxRecDepth 20000 in
theorem ggL_suspects_X3_suspects : GoodIn wsL_suspects wsX3_suspects := goodIn_ca (goodIn_ca (goodIn_g _ [7, 1, 1, 1, 1, 0, 6, 6, 1, 1, 1, 1, 1, 1, 1, 1, 1, 1, 1, 1, 1, 1, 1, 1, 1, 1, 1, 1, 1, 1, 1, 1, 1, 1, 1, 1, 1, 1, 1, 1, 1, 1, 1, 1, 1, 1, 1, 1, 1, 1, 1, 1, 1, 1, 1, 1, 1, 1, 1, 1, 1] rfl (by decide +kernel)) (goodIn_sub (fun _ h => List.mem_cons_of_mem _ (List.mem_append_right _ h)) (by decide +kernel))) (goodIn_sub (fun _ h => List.mem_cons_of_mem _ (List.mem_append_left _ (List.mem_append_right _ h))) (by decide +kernel))
set_option maxRecDepth 20000 in
theorem gL_suspects_X3_suspects : GoodIn wsL_suspects (wsV RL 80 RX3 yX3_suspects wsX3_suspects) := goodIn_app (goodIn_of _ (by decide +kernel)) ggL_suspects_X3_suspects
set_option maxRecDepth 20000 in
theorem ggL_suspectAt_X3_suspectAt : GoodIn wsL_suspectAt wsX3_suspectAt := goodIn_ca (goodIn_ca (goodIn_ca (goodIn_g _ [7, 1, 1, 1, 1, 1, 1, 0, 6, 8, 1, 1, 1, 1, 1, 1, 1, 1, 1, 1, 1, 1, 1, 1, 1, 1, 1, 1, 1, 1, 1, 1, 1, 1, 1, 1, 1, 1, 1, 1, 1, 1, 1, 1, 1, 1, 1, 1, 1, 1, 1, 1, 1, 1, 1, 1, 1, 1, 1, 1, 1, 1, 1, 1, 1, 1, 1] rfl (by decide +kernel)) (goodIn_sub (fun _ h => List.mem_cons_of_mem _ (List.mem_append_left _ (List.mem_append_right _ h))) (by decide +kernel))) (goodIn_sub (fun _ h => List.mem_cons_of_mem _ (List.mem_append_right _ h)) (by decide +kernel))) (goodIn_sub (fun _ h => List.mem_cons_of_mem _ (List.mem_append_left _ (List.mem_append_left _ (List.mem_append_right _ h)))) (by decide +kernel))
set_option maxRecDepth 20000 in
theorem gL_suspectAt_X3_suspectAt : GoodIn wsL_suspectAt (wsV RL 83 RX3 yX3_suspectAt wsX3_suspectAt) := goodIn_app (goodIn_of _ (by decide +kernel)) ggL_suspectAt_X3_suspectAt
set_option maxRecDepth 20000 in
theorem ggL_go_X3_go : GoodIn wsL_go wsX3_go := goodIn_ca (goodIn_ca (goodIn_ca (goodIn_g _ [7, 1, 1, 1, 1, 1, 1, 1, 1, 1, 1, 0, 6, 12, 1, 1, 1, 1, 1, 1, 1, 1, 1, 1, 1, 1, 1, 1, 1, 1, 1, 1, 1, 1, 1, 1, 1, 1, 1, 1, 1, 1, 1, 1, 1, 1, 1, 1, 1, 1, 1, 1, 1, 1, 1, 1, 1, 1, 1, 1, 1, 1, 1, 1, 1, 1, 1, 1, 1, 1, 1, 1, 1, 1, 1, 1, 1, 1, 1, 1, 1, 1, 1, 1, 1, 1, 1, 1, 1, 1, 1, 1, 1, 1, 1, 1, 1, 1, 1, 1, 1, 1, 1, 1, 1, 1, 1, 1, 1, 1, 1, 1, 1, 1, 1, 1, 1, 1, 1, 1, 1] rfl (by decide +kernel)) (goodIn_sub (fun _ h => List.mem_cons_of_mem _ (List.mem_append_left _ (List.mem_append_right _ h))) (by decide +kernel))) (goodIn_sub (fun _ h => List.mem_cons_of_mem _ (List.mem_append_right _ h)) (by decide +kernel))) (goodIn_sub (fun _ h => List.mem_cons_of_mem _ (List.mem_append_left _ (List.mem_append_left _ (List.mem_append_right _ h)))) (by decide +kernel))
set_option maxRecDepth 20000 in
theorem gL_go_X3_go : GoodIn wsL_go (wsV RL 86 RX3 yX3_go wsX3_go) := goodIn_app (goodIn_of _ (by decide +kernel)) ggL_go_X3_go
set_option maxRecDepth 20000 in
theorem ggL_cellAnew_X3_cellAnew : GoodIn wsL_cellAnew wsX3_cellAnew := goodIn_ca (goodIn_ca (goodIn_g _ [7, 1, 1, 1, 0, 6, 5, 1, 1, 1, 1, 1, 1, 1, 1, 1, 1, 1, 1, 1, 1, 1, 1, 1, 1, 1, 1, 1, 1, 1, 1, 1, 1, 1, 1, 1, 1, 1, 1, 1, 1, 1, 1, 1] rfl (by decide +kernel)) (goodIn_sub (fun _ h => List.mem_cons_of_mem _ (List.mem_append_right _ h)) (by decide +kernel))) (goodIn_sub (fun _ h => List.mem_cons_of_mem _ (List.mem_append_left _ (List.mem_append_right _ h))) (by decide +kernel))
set_option maxRecDepth 20000 in
theorem gL_cellAnew_X3_cellAnew : GoodIn wsL_cellAnew (wsV RL 89 RX3 yX3_cellAnew wsX3_cellAnew) := goodIn_app (goodIn_of _ (by decide +kernel)) ggL_cellAnew_X3_cellAnew
set_option maxRecDepth 20000 in
theorem ggL_worst_X3_worst : GoodIn wsL_worst wsX3_worst := goodIn_ca (goodIn_g _ [7, 1, 1, 1, 0, 6, 5, 1, 1, 1, 1, 1, 1, 1, 1, 1, 1, 1, 1, 1, 1, 1, 1, 1, 1, 1, 1, 1, 1, 1, 1] rfl (by decide +kernel)) (goodIn_sub (fun _ h => List.mem_cons_of_mem _ (List.mem_append_right _ h)) (by decide +kernel))
set_option maxRecDepth 20000 in
theorem gL_worst_X3_worst : GoodIn wsL_worst (wsV RL 92 RX3 yX3_worst wsX3_worst) := goodIn_app (goodIn_of _ (by decide +kernel)) ggL_worst_X3_worst
set_option maxRecDepth 20000 in
theorem ggL_shownShare_X3_shownShare : GoodIn wsL_shownShare wsX3_shownShare := goodIn_ca (goodIn_g _ [7, 1, 1, 1, 1, 1, 1, 1, 1, 1, 1, 1, 1, 1, 1, 1, 1, 1, 1, 1, 1, 1, 1, 1, 1] rfl (by decide +kernel)) (goodIn_sub (fun _ h => List.mem_cons_of_mem _ (List.mem_append_right _ h)) (by decide +kernel))
set_option maxRecDepth 20000 in
theorem gL_shownShare_X3_shownShare : GoodIn wsL_shownShare (wsV RL 95 RX3 yX3_shownShare wsX3_shownShare) := goodIn_app (goodIn_of _ (by decide +kernel)) ggL_shownShare_X3_shownShare
set_option maxRecDepth 20000 in
theorem ggL_meanWear_X3_meanWear : GoodIn wsL_meanWear wsX3_meanWear := goodIn_ca (goodIn_ca (goodIn_g _ [7, 1, 1, 1, 1, 1, 1, 0, 6, 8, 1, 1, 1, 1, 1, 1, 1, 1, 1, 1, 1, 1, 1, 1, 1, 1, 1, 1, 1, 1, 1, 1, 1, 1, 1, 1, 1] rfl (by decide +kernel)) (goodIn_sub (fun _ h => List.mem_cons_of_mem _ (List.mem_append_right _ h)) (by decide +kernel))) (goodIn_sub (fun _ h => List.mem_cons_of_mem _ (List.mem_append_left _ (List.mem_append_right _ h))) (by decide +kernel))
set_option maxRecDepth 20000 in
theorem gL_meanWear_X3_meanWear : GoodIn wsL_meanWear (wsV RL 101 RX3 yX3_meanWear wsX3_meanWear) := goodIn_app (goodIn_of _ (by decide +kernel)) ggL_meanWear_X3_meanWear
