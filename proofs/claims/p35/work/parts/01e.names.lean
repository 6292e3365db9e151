set_option maxRecDepth 20000 in
theorem ggX0_canWipe_X3_bitOf : GoodIn wsX0_canWipe wsX3_bitOf := goodIn_g _ [7] rfl (by decide +kernel)
set_option maxRecDepth 20000 in
theorem gX0_canWipe_X3_bitOf_n57 : GoodIn wsX0_canWipe (wsX3_bitOf) := ggX0_canWipe_X3_bitOf
set_option maxRecDepth 20000 in
theorem ggX0_canWipe_J6_bitCount_0f7a4 : GoodIn wsX0_canWipe wsJ6_bitCount_0f7a4 := goodIn_g _ [11, 1, 1, 1] rfl (by decide +kernel)
set_option maxRecDepth 20000 in
theorem gX0_canWipe_J6_bitCount_0f7a4 : GoodIn wsX0_canWipe (va_wsS RX0 60 yJ6_bitCount_0f7a4 wsJ6_bitCount_0f7a4) := goodIn_app (goodIn_of _ (by decide +kernel)) ggX0_canWipe_J6_bitCount_0f7a4
set_option maxRecDepth 20000 in
theorem ggX0_wipe_X0_change : GoodIn wsX0_wipe wsX0_change := goodIn_ca (goodIn_g _ [9, 1, 0, 2, 9, 1, 1, 1, 1, 1, 1, 1, 1, 1, 1, 1, 1, 1, 1, 0, 8, 18, 1, 1, 1, 1, 1, 1, 1, 1, 1, 1, 1, 1, 1, 1, 1, 1] rfl (by decide +kernel)) (goodIn_sub (fun _ h => List.mem_cons_of_mem _ (List.mem_append_right _ h)) (by decide +kernel))
set_option maxRecDepth 20000 in
theorem gX0_wipe_X0_change : GoodIn wsX0_wipe (wsV RX0 66 RX0 yX0_change wsX0_change) := goodIn_app (goodIn_of _ (by decide +kernel)) ggX0_wipe_X0_change
set_option maxRecDepth 20000 in
theorem ggX0_takesUp_X0_bestShift : GoodIn wsX0_takesUp wsX0_bestShift := goodIn_g _ [9, 0, 3, 7, 1, 1, 1, 1, 1, 1, 0, 8, 9, 1, 1, 1, 1, 1, 1, 1, 1, 1, 1, 1, 1, 1, 1, 1, 14, 1, 1, 1, 1, 1, 1, 1, 1, 1, 1, 1] rfl (by decide +kernel)
set_option maxRecDepth 20000 in
theorem gX0_takesUp_X0_bestShift : GoodIn wsX0_takesUp (wsV RX0 75 RX0 yX0_bestShift wsX0_bestShift) := goodIn_app (goodIn_of _ (by decide +kernel)) ggX0_takesUp_X0_bestShift
set_option maxRecDepth 20000 in
theorem ggX0_takesUp_X3_shifted : GoodIn wsX0_takesUp wsX3_shifted := goodIn_g _ [12, 1] rfl (by decide +kernel)
set_option maxRecDepth 20000 in
theorem gX0_takesUp_X3_shifted_n78 : GoodIn wsX0_takesUp (wsX3_shifted) := ggX0_takesUp_X3_shifted
set_option maxRecDepth 20000 in
theorem ggX0_takesUp_X0_change : GoodIn wsX0_takesUp wsX0_change := goodIn_ca (goodIn_g _ [36, 0, 19, 0, 3, 34, 1, 0, 20, 1, 1, 1, 1, 1, 1, 13, 0, 11, 29, 1, 1, 1, 0, 8, 36, 1, 0, 32, 0, 31, 0, 18, 28, 1, 1, 1, 1, 1, 1, 1, 1, 1, 1, 1] rfl (by decide +kernel)) (goodIn_sub (fun _ h => List.mem_cons_of_mem _ (List.mem_append_right _ h)) (by decide +kernel))
set_option maxRecDepth 20000 in
theorem gX0_takesUp_X0_change : GoodIn wsX0_takesUp (wsV RX0 66 RX0 yX0_change wsX0_change) := goodIn_app (goodIn_of _ (by decide +kernel)) ggX0_takesUp_X0_change
set_option maxRecDepth 20000 in
theorem ggX0_bestShift_X3_shifted : GoodIn wsX0_bestShift wsX3_shifted := goodIn_g _ [5, 1] rfl (by decide +kernel)
set_option maxRecDepth 20000 in
theorem gX0_bestShift_X3_shifted_n78 : GoodIn wsX0_bestShift (wsX3_shifted) := ggX0_bestShift_X3_shifted
set_option maxRecDepth 20000 in
theorem ggX0_bestShift_X0_canTurnTo : GoodIn wsX0_bestShift wsX0_canTurnTo := goodIn_g _ [11, 0, 2, 10, 1, 1, 1, 1, 1, 1, 1, 1, 7, 1, 1, 1, 1, 1, 1, 1, 1, 1, 1, 1] rfl (by decide +kernel)
set_option maxRecDepth 20000 in
theorem gX0_bestShift_X0_canTurnTo : GoodIn wsX0_bestShift (wsV RX0 81 RX0 yX0_canTurnTo wsX0_canTurnTo) := goodIn_app (goodIn_of _ (by decide +kernel)) ggX0_bestShift_X0_canTurnTo
set_option maxRecDepth 20000 in
theorem ggX0_bestShift_X0_greatestWearBehind : GoodIn wsX0_bestShift wsX0_greatestWearBehind := goodIn_g _ [24, 1, 1, 1, 1, 1, 1, 1, 1, 1, 1, 1, 1, 1, 1] rfl (by decide +kernel)
set_option maxRecDepth 20000 in
theorem gX0_bestShift_X0_greatestWearBehind : GoodIn wsX0_bestShift (wsV RX0 85 RX0 yX0_greatestWearBehind wsX0_greatestWearBehind) := goodIn_app (goodIn_of _ (by decide +kernel)) ggX0_bestShift_X0_greatestWearBehind
set_option maxRecDepth 20000 in
theorem ggX0_bestShift_J6_bitCount_0f7a4 : GoodIn wsX0_bestShift wsJ6_bitCount_0f7a4 := goodIn_g _ [17, 1, 1, 1] rfl (by decide +kernel)
set_option maxRecDepth 20000 in
theorem gX0_bestShift_J6_bitCount_0f7a4 : GoodIn wsX0_bestShift (va_wsS RX0 60 yJ6_bitCount_0f7a4 wsJ6_bitCount_0f7a4) := goodIn_app (goodIn_of _ (by decide +kernel)) ggX0_bestShift_J6_bitCount_0f7a4
set_option maxRecDepth 20000 in
theorem ggX0_canTurnTo_J6_bitCount_0f7a4 : GoodIn wsX0_canTurnTo wsJ6_bitCount_0f7a4 := goodIn_g _ [8, 1, 1, 1] rfl (by decide +kernel)
set_option maxRecDepth 20000 in
theorem gX0_canTurnTo_J6_bitCount_0f7a4 : GoodIn wsX0_canTurnTo (va_wsS RX0 60 yJ6_bitCount_0f7a4 wsJ6_bitCount_0f7a4) := goodIn_app (goodIn_of _ (by decide +kernel)) ggX0_canTurnTo_J6_bitCount_0f7a4
set_option maxRecDepth 20000 in
theorem ggX0_change_J6_bitCount_0f7a4 : GoodIn wsX0_change wsJ6_bitCount_0f7a4 := goodIn_g _ [9, 1, 1, 1] rfl (by decide +kernel)
set_option maxRecDepth 20000 in
theorem gX0_change_J6_bitCount_0f7a4 : GoodIn wsX0_change (va_wsS RX0 60 yJ6_bitCount_0f7a4 wsJ6_bitCount_0f7a4) := goodIn_app (goodIn_of _ (by decide +kernel)) ggX0_change_J6_bitCount_0f7a4
set_option maxRecDepth 20000 in
theorem ggX0_change_X3_bitOf : GoodIn wsX0_change wsX3_bitOf := goodIn_g _ [15] rfl (by decide +kernel)
set_option maxRecDepth 20000 in
theorem gX0_change_X3_bitOf_n57 : GoodIn wsX0_change (wsX3_bitOf) := ggX0_change_X3_bitOf
set_option maxRecDepth 20000 in
theorem ggX0_change_X0_wearOut : GoodIn wsX0_change wsX0_wearOut := goodIn_ca (goodIn_g _ [20, 1, 1, 1, 1, 1, 1, 1, 1, 1, 1, 1, 1, 1, 1, 1, 1] rfl (by decide +kernel)) (goodIn_sub (fun _ h => List.mem_cons_of_mem _ (List.mem_append_right _ h)) (by decide +kernel))
set_option maxRecDepth 20000 in
theorem gX0_change_X0_wearOut : GoodIn wsX0_change (wsV RX0 88 RX0 yX0_wearOut wsX0_wearOut) := goodIn_app (goodIn_of _ (by decide +kernel)) ggX0_change_X0_wearOut
set_option maxRecDepth 20000 in
theorem ggX1_isQueuedIn_X3_bitOf : GoodIn wsX1_isQueuedIn wsX3_bitOf := goodIn_g _ [5] rfl (by decide +kernel)
set_option maxRecDepth 20000 in
theorem gX1_isQueuedIn_X3_bitOf_n41 : GoodIn wsX1_isQueuedIn (wsX3_bitOf) := ggX1_isQueuedIn_X3_bitOf
set_option maxRecDepth 20000 in
theorem ggX1_isQueuedIn_X1_isOver : GoodIn wsX1_isQueuedIn wsX1_isOver := goodIn_g _ [10, 1, 1, 1, 1, 1, 1, 1, 1, 1, 1] rfl (by decide +kernel)
set_option maxRecDepth 20000 in
theorem gX1_isQueuedIn_X1_isOver : GoodIn wsX1_isQueuedIn (wsV RX1 45 RX1 yX1_isOver wsX1_isOver) := goodIn_app (goodIn_of _ (by decide +kernel)) ggX1_isQueuedIn_X1_isOver
set_option maxRecDepth 20000 in
theorem ggX1_canHaveMade_X3_shifted : GoodIn wsX1_canHaveMade wsX3_shifted := goodIn_g _ [5, 1] rfl (by decide +kernel)
set_option maxRecDepth 20000 in
theorem gX1_canHaveMade_X3_shifted_n49 : GoodIn wsX1_canHaveMade (wsX3_shifted) := ggX1_canHaveMade_X3_shifted
set_option maxRecDepth 20000 in
theorem ggX2_write_X2_find : GoodIn wsX2_write wsX2_find := goodIn_ca (goodIn_g _ [10, 0, 2, 1, 1, 7, 1, 1, 1] rfl (by decide +kernel)) (goodIn_sub (fun _ h => List.mem_cons_of_mem _ (List.mem_append_right _ h)) (by decide +kernel))
set_option maxRecDepth 20000 in
theorem gX2_write_X2_find : GoodIn wsX2_write (wsV RX2 25 RX2 yX2_find wsX2_find) := goodIn_app (goodIn_of _ (by decide +kernel)) ggX2_write_X2_find
set_option maxRecDepth 20000 in
theorem ggX2_peopleOf_X2_find : GoodIn wsX2_peopleOf wsX2_find := goodIn_ca (goodIn_g _ [7, 1, 1, 1, 1, 1, 1, 1] rfl (by decide +kernel)) (goodIn_sub (fun _ h => List.mem_cons_of_mem _ (List.mem_append_right _ h)) (by decide +kernel))
set_option maxRecDepth 20000 in
theorem gX2_peopleOf_X2_find : GoodIn wsX2_peopleOf (wsV RX2 25 RX2 yX2_find wsX2_find) := goodIn_app (goodIn_of _ (by decide +kernel)) ggX2_peopleOf_X2_find
set_option maxRecDepth 20000 in
theorem ggX3_init_X2_init : GoodIn wsX3_init wsX2_init := goodIn_g _ [23, 1, 0, 3, 1, 21, 1, 1, 1, 1, 37, 1, 1, 1] rfl (by decide +kernel)
set_option maxRecDepth 20000 in
theorem gX3_init_X2_init_n33 : GoodIn wsX3_init (wsX2_init) := ggX3_init_X2_init
set_option maxRecDepth 20000 in
theorem ggX3_init_X0_init : GoodIn wsX3_init wsX0_init := goodIn_g _ [31, 1, 0, 3, 1, 29, 1, 1, 1, 1, 1, 0, 25, 14, 1, 1, 1, 1, 1, 26, 1, 1, 1, 1, 1, 1, 1, 1, 1, 1, 1] rfl (by decide +kernel)
set_option maxRecDepth 20000 in
theorem gX3_init_X0_init_n44 : GoodIn wsX3_init (wsX0_init) := ggX3_init_X0_init
set_option maxRecDepth 20000 in
theorem ggX3_init_X1_init : GoodIn wsX3_init wsX1_init := goodIn_g _ [47, 1, 0, 3, 1, 21, 24, 1, 1, 1, 1, 1, 1, 1, 1, 25, 1, 1, 1, 1, 1, 1, 1, 1] rfl (by decide +kernel)
set_option maxRecDepth 20000 in
theorem gX3_init_X1_init : GoodIn wsX3_init (wsX1_init) := ggX3_init_X1_init
set_option maxRecDepth 20000 in
theorem ggX3_addBoard_X3_checkDistrict : GoodIn wsX3_addBoard wsX3_checkDistrict := goodIn_ca (goodIn_g _ [11, 0, 2, 1] rfl (by decide +kernel)) (goodIn_sub (fun _ h => List.mem_cons_of_mem _ (List.mem_append_left _ (List.mem_append_right _ h))) (by decide +kernel))
set_option maxRecDepth 20000 in
theorem gX3_addBoard_X3_checkDistrict : GoodIn wsX3_addBoard (va_wsS RX3 48 yX3_checkDistrict wsX3_checkDistrict) := goodIn_app (goodIn_of _ (by decide +kernel)) ggX3_addBoard_X3_checkDistrict
set_option maxRecDepth 20000 in
theorem ggX3_addBoard_X0_settle : GoodIn wsX3_addBoard wsX0_settle := goodIn_g _ [16, 1, 1, 9, 1, 1, 1, 1, 1, 1, 1, 1, 1, 1, 1] rfl (by decide +kernel)
set_option maxRecDepth 20000 in
theorem gX3_addBoard_X0_settle : GoodIn wsX3_addBoard (wsV RX3 63 RX0 yX0_settle wsX0_settle) := goodIn_app (goodIn_of _ (by decide +kernel)) ggX3_addBoard_X0_settle
set_option maxRecDepth 20000 in
theorem ggX3_charge_X3_boardAt : GoodIn wsX3_charge wsX3_boardAt := goodIn_ca (goodIn_g _ [6, 1, 1, 1, 1, 13, 1, 1, 1, 1, 1, 1, 1] rfl (by decide +kernel)) (goodIn_sub (fun _ h => List.mem_cons_of_mem _ (List.mem_append_right _ h)) (by decide +kernel))
set_option maxRecDepth 20000 in
theorem gX3_charge_X3_boardAt : GoodIn wsX3_charge (wsV RX3 69 RX3 yX3_boardAt wsX3_boardAt) := goodIn_app (goodIn_of _ (by decide +kernel)) ggX3_charge_X3_boardAt
set_option maxRecDepth 20000 in
theorem ggX3_cell_X3_boardAt : GoodIn wsX3_cell wsX3_boardAt := goodIn_ca (goodIn_g _ [6, 1, 1, 1, 1, 19, 1, 1, 1, 1, 1, 1, 1] rfl (by decide +kernel)) (goodIn_sub (fun _ h => List.mem_cons_of_mem _ (List.mem_append_right _ h)) (by decide +kernel))
set_option maxRecDepth 20000 in
theorem gX3_cell_X3_boardAt : GoodIn wsX3_cell (wsV RX3 69 RX3 yX3_boardAt wsX3_boardAt) := goodIn_app (goodIn_of _ (by decide +kernel)) ggX3_cell_X3_boardAt
set_option maxRecDepth 20000 in
theorem ggX3_cell_X3_cellAt : GoodIn wsX3_cell wsX3_cellAt := goodIn_ca (goodIn_g _ [13, 0, 7, 1] rfl (by decide +kernel)) (goodIn_sub (fun _ h => List.mem_cons_of_mem _ (List.mem_append_right _ h)) (by decide +kernel))
set_option maxRecDepth 20000 in
theorem gX3_cell_X3_cellAt : GoodIn wsX3_cell (va_wsS RX3 79 yX3_cellAt wsX3_cellAt) := goodIn_app (goodIn_of _ (by decide +kernel)) ggX3_cell_X3_cellAt
set_option maxRecDepth 20000 in
theorem ggX3_cell_X3_bitOf : GoodIn wsX3_cell wsX3_bitOf := goodIn_g _ [16] rfl (by decide +kernel)
set_option maxRecDepth 20000 in
theorem gX3_cell_X3_bitOf : GoodIn wsX3_cell (va_wsS RX3 83 yX3_bitOf wsX3_bitOf) := goodIn_app (goodIn_of _ (by decide +kernel)) ggX3_cell_X3_bitOf
set_option maxRecDepth 20000 in
theorem ggX3_wear_X3_boardAt : GoodIn wsX3_wear wsX3_boardAt := goodIn_ca (goodIn_g _ [6, 1, 1, 1, 1, 10, 1, 1, 1, 1, 1, 1, 1] rfl (by decide +kernel)) (goodIn_sub (fun _ h => List.mem_cons_of_mem _ (List.mem_append_left _ (List.mem_append_right _ h))) (by decide +kernel))
set_option maxRecDepth 20000 in
theorem gX3_wear_X3_boardAt : GoodIn wsX3_wear (wsV RX3 69 RX3 yX3_boardAt wsX3_boardAt) := goodIn_app (goodIn_of _ (by decide +kernel)) ggX3_wear_X3_boardAt
set_option maxRecDepth 20000 in
theorem ggX3_wear_X3_cellAt : GoodIn wsX3_wear wsX3_cellAt := goodIn_ca (goodIn_g _ [13, 0, 7, 1] rfl (by decide +kernel)) (goodIn_sub (fun _ h => List.mem_cons_of_mem _ (List.mem_append_left _ (List.mem_append_right _ h))) (by decide +kernel))
set_option maxRecDepth 20000 in
theorem gX3_wear_X3_cellAt : GoodIn wsX3_wear (va_wsS RX3 79 yX3_cellAt wsX3_cellAt) := goodIn_app (goodIn_of _ (by decide +kernel)) ggX3_wear_X3_cellAt
set_option maxRecDepth 20000 in
theorem ggX3_wear_X0_wearOf : GoodIn wsX3_wear wsX0_wearOf := goodIn_ca (goodIn_g _ [18, 1, 9, 1, 1, 1, 1, 1, 1, 1, 1, 1, 1, 1] rfl (by decide +kernel)) (goodIn_sub (fun _ h => List.mem_cons_of_mem _ (List.mem_append_right _ h)) (by decide +kernel))
set_option maxRecDepth 20000 in
theorem gX3_wear_X0_wearOf : GoodIn wsX3_wear (wsV RX3 86 RX0 yX0_wearOf wsX0_wearOf) := goodIn_app (goodIn_of _ (by decide +kernel)) ggX3_wear_X0_wearOf
set_option maxRecDepth 20000 in
theorem ggX3_shows_X3_boardAt : GoodIn wsX3_shows wsX3_boardAt := goodIn_ca (goodIn_g _ [6, 1, 1, 1, 1, 22, 1, 1, 1, 1, 1, 1, 1] rfl (by decide +kernel)) (goodIn_sub (fun _ h => List.mem_cons_of_mem _ (List.mem_append_right _ h)) (by decide +kernel))
set_option maxRecDepth 20000 in
theorem gX3_shows_X3_boardAt : GoodIn wsX3_shows (wsV RX3 69 RX3 yX3_boardAt wsX3_boardAt) := goodIn_app (goodIn_of _ (by decide +kernel)) ggX3_shows_X3_boardAt
set_option maxRecDepth 20000 in
theorem ggX3_shift_X3_boardAt : GoodIn wsX3_shift wsX3_boardAt := goodIn_ca (goodIn_g _ [6, 1, 1, 1, 1, 13, 1, 1, 1, 1, 1, 1, 1] rfl (by decide +kernel)) (goodIn_sub (fun _ h => List.mem_cons_of_mem _ (List.mem_append_right _ h)) (by decide +kernel))
set_option maxRecDepth 20000 in
theorem gX3_shift_X3_boardAt : GoodIn wsX3_shift (wsV RX3 69 RX3 yX3_boardAt wsX3_boardAt) := goodIn_app (goodIn_of _ (by decide +kernel)) ggX3_shift_X3_boardAt
set_option maxRecDepth 20000 in
theorem ggX3_sleeps_X3_boardAt : GoodIn wsX3_sleeps wsX3_boardAt := goodIn_ca (goodIn_g _ [6, 1, 1, 1, 1, 13, 1, 1, 1, 1, 1, 1, 1] rfl (by decide +kernel)) (goodIn_sub (fun _ h => List.mem_cons_of_mem _ (List.mem_append_right _ h)) (by decide +kernel))
set_option maxRecDepth 20000 in
theorem gX3_sleeps_X3_boardAt : GoodIn wsX3_sleeps (wsV RX3 69 RX3 yX3_boardAt wsX3_boardAt) := goodIn_app (goodIn_of _ (by decide +kernel)) ggX3_sleeps_X3_boardAt
set_option maxRecDepth 20000 in
theorem ggX3_post_X3_take : GoodIn wsX3_post wsX3_take := goodIn_ca (goodIn_g _ [8, 1, 1, 1, 1, 1, 1, 1, 1, 1, 1, 1, 1, 1, 1, 10, 1, 1, 1, 1, 1, 1, 1, 0, 23, 1, 1, 1, 1, 1, 1, 1, 1] rfl (by decide +kernel)) (goodIn_sub (fun _ h => List.mem_cons_of_mem _ (List.mem_append_right _ h)) (by decide +kernel))
set_option maxRecDepth 20000 in
theorem gX3_post_X3_take : GoodIn wsX3_post (wsV RX3 110 RX3 yX3_take wsX3_take) := goodIn_app (goodIn_of _ (by decide +kernel)) ggX3_post_X3_take
set_option maxRecDepth 20000 in
theorem ggX3_queue_X3_noticeAt : GoodIn wsX3_queue wsX3_noticeAt := goodIn_ca (goodIn_g _ [9, 1, 1, 1, 1, 32, 1, 1, 1, 1, 1, 1, 1] rfl (by decide +kernel)) (goodIn_sub (fun _ h => List.mem_cons_of_mem _ (List.mem_append_left _ (List.mem_append_right _ h))) (by decide +kernel))
set_option maxRecDepth 20000 in
theorem gX3_queue_X3_noticeAt : GoodIn wsX3_queue (wsV RX3 114 RX3 yX3_noticeAt wsX3_noticeAt) := goodIn_app (goodIn_of _ (by decide +kernel)) ggX3_queue_X3_noticeAt
set_option maxRecDepth 20000 in
theorem ggX3_queue_X3_checkDistrict : GoodIn wsX3_queue wsX3_checkDistrict := goodIn_ca (goodIn_g _ [16, 1, 1] rfl (by decide +kernel)) (goodIn_sub (fun _ h => List.mem_cons_of_mem _ (List.mem_append_right _ h)) (by decide +kernel))
set_option maxRecDepth 20000 in
theorem gX3_queue_X3_checkDistrict : GoodIn wsX3_queue (va_wsS RX3 48 yX3_checkDistrict wsX3_checkDistrict) := goodIn_app (goodIn_of _ (by decide +kernel)) ggX3_queue_X3_checkDistrict
set_option maxRecDepth 20000 in
theorem ggX3_queue_X1_isQueuedIn : GoodIn wsX3_queue wsX1_isQueuedIn := goodIn_g _ [23, 1, 1, 0, 8, 18, 1, 1, 1, 0, 22, 8, 1, 5, 1, 1, 1, 1, 1, 1, 1, 1] rfl (by decide +kernel)
set_option maxRecDepth 20000 in
theorem gX3_queue_X1_isQueuedIn : GoodIn wsX3_queue (wsV RX3 129 RX1 yX1_isQueuedIn wsX1_isQueuedIn) := goodIn_app (goodIn_of _ (by decide +kernel)) ggX3_queue_X1_isQueuedIn
set_option maxRecDepth 20000 in
theorem ggX3_queue_X1_putInto : GoodIn wsX3_queue wsX1_putInto := goodIn_g _ [35, 0, 24, 12, 1, 1, 1, 1, 1, 1, 1, 1] rfl (by decide +kernel)
set_option maxRecDepth 20000 in
theorem gX3_queue_X1_putInto : GoodIn wsX3_queue (wsV RX3 133 RX1 yX1_putInto wsX1_putInto) := goodIn_app (goodIn_of _ (by decide +kernel)) ggX3_queue_X1_putInto
set_option maxRecDepth 20000 in
theorem ggX3_takeBack_X3_noticeAt : GoodIn wsX3_takeBack wsX3_noticeAt := goodIn_ca (goodIn_g _ [11, 1, 1, 1, 1, 7, 1, 1, 1, 1, 1, 1, 1] rfl (by decide +kernel)) (goodIn_sub (fun _ h => List.mem_cons_of_mem _ (List.mem_append_right _ h)) (by decide +kernel))
set_option maxRecDepth 20000 in
theorem gX3_takeBack_X3_noticeAt : GoodIn wsX3_takeBack (wsV RX3 114 RX3 yX3_noticeAt wsX3_noticeAt) := goodIn_app (goodIn_of _ (by decide +kernel)) ggX3_takeBack_X3_noticeAt
set_option maxRecDepth 20000 in
theorem ggX3_takeBack_X3_boardsThatShow : GoodIn wsX3_takeBack wsX3_boardsThatShow := goodIn_g _ [19, 1, 1, 1, 1, 1, 1, 1, 1, 1, 1, 10, 1, 1, 1, 1, 1, 1, 1, 1, 1, 1, 1] rfl (by decide +kernel)
set_option maxRecDepth 20000 in
theorem gX3_takeBack_X3_boardsThatShow : GoodIn wsX3_takeBack (wsV RX3 143 RX3 yX3_boardsThatShow wsX3_boardsThatShow) := goodIn_app (goodIn_of _ (by decide +kernel)) ggX3_takeBack_X3_boardsThatShow
set_option maxRecDepth 20000 in
theorem ggX3_mend_X3_noticeAt : GoodIn wsX3_mend wsX3_noticeAt := goodIn_ca (goodIn_g _ [18, 1, 1, 1, 1, 52, 1, 1, 1, 1, 1, 1, 1] rfl (by decide +kernel)) (goodIn_sub (fun _ h => List.mem_cons_of_mem _ (List.mem_append_left _ (List.mem_append_left _ (List.mem_append_right _ h)))) (by decide +kernel))
set_option maxRecDepth 20000 in
theorem gX3_mend_X3_noticeAt : GoodIn wsX3_mend (wsV RX3 114 RX3 yX3_noticeAt wsX3_noticeAt) := goodIn_app (goodIn_of _ (by decide +kernel)) ggX3_mend_X3_noticeAt
set_option maxRecDepth 20000 in
theorem ggX3_mend_X1_isOver : GoodIn wsX3_mend wsX1_isOver := goodIn_g _ [27, 1, 37, 1, 1, 1, 1, 1, 1, 1, 1] rfl (by decide +kernel)
set_option maxRecDepth 20000 in
theorem gX3_mend_X1_isOver : GoodIn wsX3_mend (wsV RX3 152 RX1 yX1_isOver wsX1_isOver) := goodIn_app (goodIn_of _ (by decide +kernel)) ggX3_mend_X1_isOver
set_option maxRecDepth 20000 in
theorem ggX3_mend_X3_take : GoodIn wsX3_mend wsX3_take := goodIn_ca (goodIn_g _ [32, 1, 1, 0, 21, 1, 13, 1, 1, 1, 0, 26, 13, 1, 1, 1, 0, 28, 46, 1, 1, 1, 1, 1, 1, 1, 0, 65, 1, 1, 1, 1, 1, 1, 1, 1] rfl (by decide +kernel)) (goodIn_sub (fun _ h => List.mem_cons_of_mem _ (List.mem_append_left _ (List.mem_append_right _ h))) (by decide +kernel))
set_option maxRecDepth 20000 in
theorem gX3_mend_X3_take : GoodIn wsX3_mend (wsV RX3 110 RX3 yX3_take wsX3_take) := goodIn_app (goodIn_of _ (by decide +kernel)) ggX3_mend_X3_take
set_option maxRecDepth 20000 in
theorem ggX3_mend_X3_queueWhereRead : GoodIn wsX3_mend wsX3_queueWhereRead := goodIn_ca (goodIn_g _ [46, 0, 6, 41, 1, 1, 0, 26, 24, 1, 1, 0, 17, 36, 1, 0, 24, 1, 2, 1, 27, 1, 1, 1, 1, 1, 1, 1, 1, 1, 10, 1, 1, 1, 1, 1, 1, 1, 0, 65, 1, 1, 1, 1, 1, 1, 1, 1, 9, 1, 1, 1, 1, 1, 1, 1, 1, 1, 1, 1] rfl (by decide +kernel)) (goodIn_sub (fun _ h => List.mem_cons_of_mem _ (List.mem_append_right _ h)) (by decide +kernel))
set_option maxRecDepth 20000 in
theorem gX3_mend_X3_queueWhereRead : GoodIn wsX3_mend (wsV RX3 172 RX3 yX3_queueWhereRead wsX3_queueWhereRead) := goodIn_app (goodIn_of _ (by decide +kernel)) ggX3_mend_X3_queueWhereRead
set_option maxRecDepth 20000 in
theorem ggX3_deny_X3_checkDistrict : GoodIn wsX3_deny wsX3_checkDistrict := goodIn_ca (goodIn_g _ [8, 0, 2, 1] rfl (by decide +kernel)) (goodIn_sub (fun _ h => List.mem_cons_of_mem _ (List.mem_append_left _ (List.mem_append_right _ h))) (by decide +kernel))
set_option maxRecDepth 20000 in
theorem gX3_deny_X3_checkDistrict : GoodIn wsX3_deny (va_wsS RX3 48 yX3_checkDistrict wsX3_checkDistrict) := goodIn_app (goodIn_of _ (by decide +kernel)) ggX3_deny_X3_checkDistrict
set_option maxRecDepth 20000 in
theorem ggX3_deny_X3_take : GoodIn wsX3_deny wsX3_take := goodIn_ca (goodIn_g _ [12, 1, 1, 1, 1, 1, 1, 1, 1, 1, 1, 1, 1, 1, 1, 6, 1, 1, 1, 1, 1, 1, 1, 1, 1, 1, 1, 1, 1, 1, 1, 1] rfl (by decide +kernel)) (goodIn_sub (fun _ h => List.mem_cons_of_mem _ (List.mem_append_right _ h)) (by decide +kernel))
set_option maxRecDepth 20000 in
theorem gX3_deny_X3_take : GoodIn wsX3_deny (wsV RX3 110 RX3 yX3_take wsX3_take) := goodIn_app (goodIn_of _ (by decide +kernel)) ggX3_deny_X3_take
set_option maxRecDepth 20000 in
theorem ggX3_deny_X1_putInto : GoodIn wsX3_deny wsX1_putInto := goodIn_g _ [30, 1, 9, 1, 1, 1, 1, 1, 1, 1, 1] rfl (by decide +kernel)
set_option maxRecDepth 20000 in
theorem gX3_deny_X1_putInto : GoodIn wsX3_deny (wsV RX3 133 RX1 yX1_putInto wsX1_putInto) := goodIn_app (goodIn_of _ (by decide +kernel)) ggX3_deny_X1_putInto
set_option maxRecDepth 20000 in
theorem ggX3_queued_X3_checkDistrict : GoodIn wsX3_queued wsX3_checkDistrict := goodIn_ca (goodIn_g _ [8, 1, 1] rfl (by decide +kernel)) (goodIn_sub (fun _ h => List.mem_cons_of_mem _ (List.mem_append_right _ h)) (by decide +kernel))
set_option maxRecDepth 20000 in
theorem gX3_queued_X3_checkDistrict : GoodIn wsX3_queued (va_wsS RX3 48 yX3_checkDistrict wsX3_checkDistrict) := goodIn_app (goodIn_of _ (by decide +kernel)) ggX3_queued_X3_checkDistrict
set_option maxRecDepth 20000 in
theorem ggX3_queued_X1_isQueuedIn : GoodIn wsX3_queued wsX1_isQueuedIn := goodIn_g _ [15, 1, 1, 0, 7, 11, 1, 1, 1, 0, 14, 8, 1, 9, 1, 1, 1, 1, 1, 1, 1, 1] rfl (by decide +kernel)
set_option maxRecDepth 20000 in
theorem gX3_queued_X1_isQueuedIn : GoodIn wsX3_queued (wsV RX3 129 RX1 yX1_isQueuedIn wsX1_isQueuedIn) := goodIn_app (goodIn_of _ (by decide +kernel)) ggX3_queued_X1_isQueuedIn
set_option maxRecDepth 20000 in
theorem ggX3_queuedAt_X3_checkDistrict : GoodIn wsX3_queuedAt wsX3_checkDistrict := goodIn_ca (goodIn_g _ [10, 1, 1] rfl (by decide +kernel)) (goodIn_sub (fun _ h => List.mem_cons_of_mem _ (List.mem_append_right _ h)) (by decide +kernel))
set_option maxRecDepth 20000 in
theorem gX3_queuedAt_X3_checkDistrict : GoodIn wsX3_queuedAt (va_wsS RX3 48 yX3_checkDistrict wsX3_checkDistrict) := goodIn_app (goodIn_of _ (by decide +kernel)) ggX3_queuedAt_X3_checkDistrict
set_option maxRecDepth 20000 in
theorem ggX3_queuedAt_X1_isQueuedIn : GoodIn wsX3_queuedAt wsX1_isQueuedIn := goodIn_g _ [17, 1, 1, 0, 9, 11, 1, 1, 1, 0, 16, 8, 1, 9, 1, 1, 1, 1, 1, 1, 1, 1] rfl (by decide +kernel)
set_option maxRecDepth 20000 in
theorem gX3_queuedAt_X1_isQueuedIn : GoodIn wsX3_queuedAt (wsV RX3 129 RX1 yX1_isQueuedIn wsX1_isQueuedIn) := goodIn_app (goodIn_of _ (by decide +kernel)) ggX3_queuedAt_X1_isQueuedIn
set_option maxRecDepth 20000 in
theorem ggX3_isDue_X3_noticeAt : GoodIn wsX3_isDue wsX3_noticeAt := goodIn_ca (goodIn_g _ [7, 1, 1, 1, 1, 8, 1, 1, 1, 1, 1, 1, 1] rfl (by decide +kernel)) (goodIn_sub (fun _ h => List.mem_cons_of_mem _ (List.mem_append_right _ h)) (by decide +kernel))
set_option maxRecDepth 20000 in
theorem gX3_isDue_X3_noticeAt : GoodIn wsX3_isDue (wsV RX3 114 RX3 yX3_noticeAt wsX3_noticeAt) := goodIn_app (goodIn_of _ (by decide +kernel)) ggX3_isDue_X3_noticeAt
set_option maxRecDepth 20000 in
theorem ggX3_isDue_X1_isOf : GoodIn wsX3_isDue wsX1_isOf := goodIn_g _ [16, 1, 1, 9, 1, 1, 1, 1, 1, 1, 1, 1] rfl (by decide +kernel)
set_option maxRecDepth 20000 in
theorem gX3_isDue_X1_isOf : GoodIn wsX3_isDue (wsV RX3 185 RX1 yX1_isOf wsX1_isOf) := goodIn_app (goodIn_of _ (by decide +kernel)) ggX3_isDue_X1_isOf
set_option maxRecDepth 20000 in
theorem ggX3_pass_X3_boardAt : GoodIn wsX3_pass wsX3_boardAt := goodIn_ca (goodIn_g _ [10, 1, 1, 1, 1, 35, 1, 1, 1, 1, 1, 1, 1] rfl (by decide +kernel)) (goodIn_sub (fun _ h => List.mem_cons_of_mem _ (List.mem_append_right _ h)) (by decide +kernel))
set_option maxRecDepth 20000 in
theorem gX3_pass_X3_boardAt : GoodIn wsX3_pass (wsV RX3 69 RX3 yX3_boardAt wsX3_boardAt) := goodIn_app (goodIn_of _ (by decide +kernel)) ggX3_pass_X3_boardAt
set_option maxRecDepth 20000 in
theorem ggX3_pass_X2_write : GoodIn wsX3_pass wsX2_write := goodIn_ca (goodIn_g _ [19, 1, 1, 1, 1, 1, 1, 1, 0, 18, 9, 30, 1, 1, 1] rfl (by decide +kernel)) (goodIn_sub (fun _ h => List.mem_cons_of_mem _ (List.mem_append_left _ (List.mem_append_right _ h))) (by decide +kernel))
set_option maxRecDepth 20000 in
theorem gX3_pass_X2_write : GoodIn wsX3_pass (wsV RX3 194 RX2 yX2_write wsX2_write) := goodIn_app (goodIn_of _ (by decide +kernel)) ggX3_pass_X2_write
set_option maxRecDepth 20000 in
theorem ggX3_readers_X3_noticeAt : GoodIn wsX3_readers wsX3_noticeAt := goodIn_ca (goodIn_g _ [6, 1, 1, 1, 1, 12, 1, 1, 1, 1, 1, 1, 1] rfl (by decide +kernel)) (goodIn_sub (fun _ h => List.mem_cons_of_mem _ (List.mem_append_left _ (List.mem_append_left _ (List.mem_append_right _ h)))) (by decide +kernel))
set_option maxRecDepth 20000 in
theorem gX3_readers_X3_noticeAt : GoodIn wsX3_readers (wsV RX3 114 RX3 yX3_noticeAt wsX3_noticeAt) := goodIn_app (goodIn_of _ (by decide +kernel)) ggX3_readers_X3_noticeAt
set_option maxRecDepth 20000 in
theorem ggX3_readers_X3_checkDistrict : GoodIn wsX3_readers wsX3_checkDistrict := goodIn_ca (goodIn_g _ [13, 1, 1] rfl (by decide +kernel)) (goodIn_sub (fun _ h => List.mem_cons_of_mem _ (List.mem_append_left _ (List.mem_append_right _ h))) (by decide +kernel))
set_option maxRecDepth 20000 in
theorem gX3_readers_X3_checkDistrict : GoodIn wsX3_readers (va_wsS RX3 48 yX3_checkDistrict wsX3_checkDistrict) := goodIn_app (goodIn_of _ (by decide +kernel)) ggX3_readers_X3_checkDistrict
set_option maxRecDepth 20000 in
theorem ggX3_readers_X3_readersIn : GoodIn wsX3_readers wsX3_readersIn := goodIn_ca (goodIn_g _ [19, 1, 1, 1, 1, 1, 1, 1, 1, 1, 1, 1, 1, 1, 1, 1, 1, 1, 1, 1, 1, 1, 1, 1, 1, 1, 1, 1, 1, 1, 1, 1] rfl (by decide +kernel)) (goodIn_sub (fun _ h => List.mem_cons_of_mem _ (List.mem_append_right _ h)) (by decide +kernel))
set_option maxRecDepth 20000 in
theorem gX3_readers_X3_readersIn : GoodIn wsX3_readers (wsV RX3 198 RX3 yX3_readersIn wsX3_readersIn) := goodIn_app (goodIn_of _ (by decide +kernel)) ggX3_readers_X3_readersIn
set_option maxRecDepth 20000 in
theorem ggX3_readIn_X3_noticeAt : GoodIn wsX3_readIn wsX3_noticeAt := goodIn_ca (goodIn_g _ [7, 1, 1, 1, 1, 14, 1, 1, 1, 1, 1, 1, 1] rfl (by decide +kernel)) (goodIn_sub (fun _ h => List.mem_cons_of_mem _ (List.mem_append_left _ (List.mem_append_right _ h))) (by decide +kernel))
set_option maxRecDepth 20000 in
theorem gX3_readIn_X3_noticeAt : GoodIn wsX3_readIn (wsV RX3 114 RX3 yX3_noticeAt wsX3_noticeAt) := goodIn_app (goodIn_of _ (by decide +kernel)) ggX3_readIn_X3_noticeAt
set_option maxRecDepth 20000 in
theorem ggX3_readIn_X2_peopleOf : GoodIn wsX3_readIn wsX2_peopleOf := goodIn_ca (goodIn_g _ [16, 1, 1, 1, 1, 0, 15, 6, 1, 1, 1, 18, 1, 1, 1] rfl (by decide +kernel)) (goodIn_sub (fun _ h => List.mem_cons_of_mem _ (List.mem_append_right _ h)) (by decide +kernel))
set_option maxRecDepth 20000 in
theorem gX3_readIn_X2_peopleOf : GoodIn wsX3_readIn (wsV RX3 202 RX2 yX2_peopleOf wsX2_peopleOf) := goodIn_app (goodIn_of _ (by decide +kernel)) ggX3_readIn_X2_peopleOf
set_option maxRecDepth 20000 in
theorem ggX3_suspects_X3_checkRumour : GoodIn wsX3_suspects wsX3_checkRumour := goodIn_ca (goodIn_g _ [7, 1, 1, 1, 1, 0, 6, 6] rfl (by decide +kernel)) (goodIn_sub (fun _ h => List.mem_cons_of_mem _ (List.mem_append_left _ (List.mem_append_right _ h))) (by decide +kernel))
set_option maxRecDepth 20000 in
theorem gX3_suspects_X3_checkRumour : GoodIn wsX3_suspects (va_wsS RX3 205 yX3_checkRumour wsX3_checkRumour) := goodIn_app (goodIn_of _ (by decide +kernel)) ggX3_suspects_X3_checkRumour
set_option maxRecDepth 20000 in
theorem ggX3_suspects_X3_isSuspect : GoodIn wsX3_suspects wsX3_isSuspect := goodIn_ca (goodIn_g _ [16, 1, 1, 1, 0, 6, 14, 1, 1, 1, 1, 1, 1, 1, 1, 1, 1, 1, 1, 1, 1, 1, 1, 1, 1, 1, 1, 1, 1, 1, 1, 1, 1, 1, 1, 1, 1, 1, 1, 1, 1, 1, 1, 1, 1, 1, 1] rfl (by decide +kernel)) (goodIn_sub (fun _ h => List.mem_cons_of_mem _ (List.mem_append_right _ h)) (by decide +kernel))
set_option maxRecDepth 20000 in
theorem gX3_suspects_X3_isSuspect : GoodIn wsX3_suspects (wsV RX3 208 RX3 yX3_isSuspect wsX3_isSuspect) := goodIn_app (goodIn_of _ (by decide +kernel)) ggX3_suspects_X3_isSuspect
set_option maxRecDepth 20000 in
theorem ggX3_suspectAt_X3_checkRumour : GoodIn wsX3_suspectAt wsX3_checkRumour := goodIn_ca (goodIn_g _ [9, 1, 1, 1, 1, 0, 8, 6] rfl (by decide +kernel)) (goodIn_sub (fun _ h => List.mem_cons_of_mem _ (List.mem_append_left _ (List.mem_append_right _ h))) (by decide +kernel))
set_option maxRecDepth 20000 in
theorem gX3_suspectAt_X3_checkRumour : GoodIn wsX3_suspectAt (va_wsS RX3 205 yX3_checkRumour wsX3_checkRumour) := goodIn_app (goodIn_of _ (by decide +kernel)) ggX3_suspectAt_X3_checkRumour
set_option maxRecDepth 20000 in
theorem ggX3_suspectAt_X3_isSuspect : GoodIn wsX3_suspectAt wsX3_isSuspect := goodIn_ca (goodIn_g _ [18, 1, 1, 1, 0, 8, 14, 1, 1, 1, 1, 1, 1, 1, 1, 1, 1, 1, 5, 1, 1, 1, 1, 1, 1, 1, 1, 1, 1, 1, 1, 1, 1, 1, 1, 1, 1, 1, 1, 1, 1, 1, 1, 1, 1, 1, 1] rfl (by decide +kernel)) (goodIn_sub (fun _ h => List.mem_cons_of_mem _ (List.mem_append_right _ h)) (by decide +kernel))
set_option maxRecDepth 20000 in
theorem gX3_suspectAt_X3_isSuspect : GoodIn wsX3_suspectAt (wsV RX3 208 RX3 yX3_isSuspect wsX3_isSuspect) := goodIn_app (goodIn_of _ (by decide +kernel)) ggX3_suspectAt_X3_isSuspect
set_option maxRecDepth 20000 in
theorem ggX3_suspectAt_X3_suspectsAhead : GoodIn wsX3_suspectAt wsX3_suspectsAhead := goodIn_ca (goodIn_g _ [37, 0, 4, 1, 14, 1, 1, 0, 8, 14, 1, 1, 0, 15, 1, 1, 1, 7, 1, 1, 1, 1, 1, 1, 1, 1, 5, 1, 1, 1, 1, 1, 1, 1, 13, 1, 1, 1, 1, 1, 1, 1, 1, 0, 46, 1, 1, 1, 1, 1, 1, 1, 1, 1, 1, 1] rfl (by decide +kernel)) (goodIn_sub (fun _ h => List.mem_cons_of_mem _ (List.mem_append_right _ h)) (by decide +kernel))
set_option maxRecDepth 20000 in
theorem gX3_suspectAt_X3_suspectsAhead : GoodIn wsX3_suspectAt (wsV RX3 212 RX3 yX3_suspectsAhead wsX3_suspectsAhead) := goodIn_app (goodIn_of _ (by decide +kernel)) ggX3_suspectAt_X3_suspectsAhead
set_option maxRecDepth 20000 in
theorem ggX3_go_X3_letHourComeTo : GoodIn wsX3_go wsX3_letHourComeTo := goodIn_ca (goodIn_g _ [13, 1, 0, 6, 9, 1, 1, 1, 1, 1, 1, 1, 1, 1, 1, 1, 1, 1, 1, 1, 1, 1, 1, 1, 1, 1, 1, 1, 1, 1, 1, 1, 1, 1, 1, 1, 1, 1, 1, 1, 1, 1, 1, 1, 0, 12, 43, 1, 1, 1, 1, 1, 1, 1, 1, 1, 1, 1, 1, 1, 1, 1, 1, 1, 1, 1, 1, 1, 1, 1, 1, 1, 1, 1, 1, 1, 1, 1, 1, 1, 1, 1, 1, 1, 1, 1, 1, 1, 1, 1, 1, 1, 1, 1, 1, 1, 1, 1, 1, 1, 1, 1, 1, 1, 1, 1, 1, 1, 1, 1, 1, 1] rfl (by decide +kernel)) (goodIn_sub (fun _ h => List.mem_cons_of_mem _ (List.mem_append_right _ h)) (by decide +kernel))
set_option maxRecDepth 20000 in
theorem gX3_go_X3_letHourComeTo : GoodIn wsX3_go (wsV RX3 222 RX3 yX3_letHourComeTo wsX3_letHourComeTo) := goodIn_app (goodIn_of _ (by decide +kernel)) ggX3_go_X3_letHourComeTo
set_option maxRecDepth 20000 in
theorem ggX3_cellAnew_X3_boardAt : GoodIn wsX3_cellAnew wsX3_boardAt := goodIn_ca (goodIn_g _ [6, 1, 1, 1, 1, 14, 1, 1, 1, 1, 1, 1, 1] rfl (by decide +kernel)) (goodIn_sub (fun _ h => List.mem_cons_of_mem _ (List.mem_append_left _ (List.mem_append_right _ h))) (by decide +kernel))
set_option maxRecDepth 20000 in
theorem gX3_cellAnew_X3_boardAt : GoodIn wsX3_cellAnew (wsV RX3 69 RX3 yX3_boardAt wsX3_boardAt) := goodIn_app (goodIn_of _ (by decide +kernel)) ggX3_cellAnew_X3_boardAt
set_option maxRecDepth 20000 in
theorem ggX3_cellAnew_X0_blackAnew : GoodIn wsX3_cellAnew wsX0_blackAnew := goodIn_ca (goodIn_g _ [15, 1, 1, 15, 1, 1, 1, 1, 1, 1, 1, 1, 1, 1, 1] rfl (by decide +kernel)) (goodIn_sub (fun _ h => List.mem_cons_of_mem _ (List.mem_append_right _ h)) (by decide +kernel))
set_option maxRecDepth 20000 in
theorem gX3_cellAnew_X0_blackAnew : GoodIn wsX3_cellAnew (wsV RX3 226 RX0 yX0_blackAnew wsX0_blackAnew) := goodIn_app (goodIn_of _ (by decide +kernel)) ggX3_cellAnew_X0_blackAnew
set_option maxRecDepth 20000 in
theorem ggX3_cellAnew_X3_cellAt : GoodIn wsX3_cellAnew wsX3_cellAt := goodIn_ca (goodIn_g _ [20, 0, 7, 1] rfl (by decide +kernel)) (goodIn_sub (fun _ h => List.mem_cons_of_mem _ (List.mem_append_left _ (List.mem_append_right _ h))) (by decide +kernel))
set_option maxRecDepth 20000 in
theorem gX3_cellAnew_X3_cellAt : GoodIn wsX3_cellAnew (va_wsS RX3 79 yX3_cellAt wsX3_cellAt) := goodIn_app (goodIn_of _ (by decide +kernel)) ggX3_cellAnew_X3_cellAt
set_option maxRecDepth 20000 in
theorem ggX3_cellAnew_X3_bitOf : GoodIn wsX3_cellAnew wsX3_bitOf := goodIn_g _ [23] rfl (by decide +kernel)
set_option maxRecDepth 20000 in
theorem gX3_cellAnew_X3_bitOf : GoodIn wsX3_cellAnew (va_wsS RX3 83 yX3_bitOf wsX3_bitOf) := goodIn_app (goodIn_of _ (by decide +kernel)) ggX3_cellAnew_X3_bitOf
set_option maxRecDepth 20000 in
theorem ggX3_changes_X0_wearOfAll : GoodIn wsX3_changes wsX0_wearOfAll := goodIn_ca (goodIn_g _ [8, 1, 9, 1, 1, 1, 1, 1, 1, 1, 1, 1, 1, 1] rfl (by decide +kernel)) (goodIn_sub (fun _ h => List.mem_cons_of_mem _ (List.mem_append_right _ h)) (by decide +kernel))
set_option maxRecDepth 20000 in
theorem gX3_changes_X0_wearOfAll : GoodIn wsX3_changes (wsV RX3 230 RX0 yX0_wearOfAll wsX0_wearOfAll) := goodIn_app (goodIn_of _ (by decide +kernel)) ggX3_changes_X0_wearOfAll
set_option maxRecDepth 20000 in
theorem ggX3_worst_X3_boardAt : GoodIn wsX3_worst wsX3_boardAt := goodIn_ca (goodIn_g _ [6, 1, 1, 1, 1, 13, 1, 1, 1, 1, 1, 1, 1] rfl (by decide +kernel)) (goodIn_sub (fun _ h => List.mem_cons_of_mem _ (List.mem_append_right _ h)) (by decide +kernel))
set_option maxRecDepth 20000 in
theorem gX3_worst_X3_boardAt : GoodIn wsX3_worst (wsV RX3 69 RX3 yX3_boardAt wsX3_boardAt) := goodIn_app (goodIn_of _ (by decide +kernel)) ggX3_worst_X3_boardAt
set_option maxRecDepth 20000 in
theorem ggX3_checksum_X3_bitOf : GoodIn wsX3_checksum wsX3_bitOf := goodIn_g _ [8] rfl (by decide +kernel)
set_option maxRecDepth 20000 in
theorem gX3_checksum_X3_bitOf : GoodIn wsX3_checksum (va_wsS RX3 83 yX3_bitOf wsX3_bitOf) := goodIn_app (goodIn_of _ (by decide +kernel)) ggX3_checksum_X3_bitOf
set_option maxRecDepth 20000 in
theorem ggX3_checksum_X0_wearOf : GoodIn wsX3_checksum wsX0_wearOf := goodIn_ca (goodIn_g _ [13, 1, 9, 1, 1, 1, 1, 1, 1, 1, 1, 1, 1, 1] rfl (by decide +kernel)) (goodIn_sub (fun _ h => List.mem_cons_of_mem _ (List.mem_append_right _ h)) (by decide +kernel))
set_option maxRecDepth 20000 in
theorem gX3_checksum_X0_wearOf : GoodIn wsX3_checksum (wsV RX3 86 RX0 yX0_wearOf wsX0_wearOf) := goodIn_app (goodIn_of _ (by decide +kernel)) ggX3_checksum_X0_wearOf
set_option maxRecDepth 20000 in
theorem ggX3_meanWear_X3_changes : GoodIn wsX3_meanWear wsX3_changes := goodIn_ca (goodIn_g _ [9, 0, 4, 6, 1, 1, 1, 1, 1, 1, 1, 1, 1, 1, 1, 1, 1, 1, 1, 1, 1, 1, 1, 1, 1, 1, 1, 1, 1, 1] rfl (by decide +kernel)) (goodIn_sub (fun _ h => List.mem_cons_of_mem _ (List.mem_append_right _ h)) (by decide +kernel))
set_option maxRecDepth 20000 in
theorem gX3_meanWear_X3_changes : GoodIn wsX3_meanWear (wsV RX3 243 RX3 yX3_changes wsX3_changes) := goodIn_app (goodIn_of _ (by decide +kernel)) ggX3_meanWear_X3_changes
set_option maxRecDepth 20000 in
theorem ggX3_isSound_X1_isOf : GoodIn wsX3_isSound wsX1_isOf := goodIn_g _ [9, 1, 1, 45, 1, 1, 1, 1, 1, 1, 1, 1] rfl (by decide +kernel)
set_option maxRecDepth 20000 in
theorem gX3_isSound_X1_isOf : GoodIn wsX3_isSound (wsV RX3 185 RX1 yX1_isOf wsX1_isOf) := goodIn_app (goodIn_of _ (by decide +kernel)) ggX3_isSound_X1_isOf
set_option maxRecDepth 20000 in
theorem ggX3_isSound_X0_canWipe : GoodIn wsX3_isSound wsX0_canWipe := goodIn_ca (goodIn_g _ [16, 1, 1, 1, 1, 1, 1, 1, 1, 1, 1, 1, 1, 1, 15, 1, 1, 1, 1, 1, 1, 1, 1, 1, 1, 1] rfl (by decide +kernel)) (goodIn_sub (fun _ h => List.mem_cons_of_mem _ (List.mem_append_right _ h)) (by decide +kernel))
set_option maxRecDepth 20000 in
theorem gX3_isSound_X0_canWipe : GoodIn wsX3_isSound (wsV RX3 247 RX0 yX0_canWipe wsX0_canWipe) := goodIn_app (goodIn_of _ (by decide +kernel)) ggX3_isSound_X0_canWipe
set_option maxRecDepth 20000 in
theorem ggX3_isSound_X0_blackAnew : GoodIn wsX3_isSound wsX0_blackAnew := goodIn_ca (goodIn_g _ [33, 1, 1, 9, 1, 1, 1, 1, 1, 1, 1, 1, 1, 1, 1] rfl (by decide +kernel)) (goodIn_sub (fun _ h => List.mem_cons_of_mem _ (List.mem_append_right _ h)) (by decide +kernel))
set_option maxRecDepth 20000 in
theorem gX3_isSound_X0_blackAnew : GoodIn wsX3_isSound (wsV RX3 226 RX0 yX0_blackAnew wsX0_blackAnew) := goodIn_app (goodIn_of _ (by decide +kernel)) ggX3_isSound_X0_blackAnew
set_option maxRecDepth 20000 in
theorem ggX3_checkRumour_X3_checkDistrict : GoodIn wsX3_checkRumour wsX3_checkDistrict := goodIn_ca (goodIn_g _ [7, 0, 2, 1] rfl (by decide +kernel)) (goodIn_sub (fun _ h => List.mem_cons_of_mem _ (List.mem_append_right _ h)) (by decide +kernel))
set_option maxRecDepth 20000 in
theorem gX3_checkRumour_X3_checkDistrict : GoodIn wsX3_checkRumour (va_wsS RX3 48 yX3_checkDistrict wsX3_checkDistrict) := goodIn_app (goodIn_of _ (by decide +kernel)) ggX3_checkRumour_X3_checkDistrict
set_option maxRecDepth 20000 in
theorem ggX3_take_X1_fill : GoodIn wsX3_take wsX1_fill := goodIn_g _ [11, 1, 1, 1, 1, 9, 1, 1, 1, 1, 1, 1, 1, 1] rfl (by decide +kernel)
set_option maxRecDepth 20000 in
theorem gX3_take_X1_fill : GoodIn wsX3_take (wsV RX3 263 RX1 yX1_fill wsX1_fill) := goodIn_app (goodIn_of _ (by decide +kernel)) ggX3_take_X1_fill
set_option maxRecDepth 20000 in
theorem ggX3_queueWhereRead_X1_isQueuedIn : GoodIn wsX3_queueWhereRead wsX1_isQueuedIn := goodIn_g _ [7, 1, 1, 1, 1, 1, 1, 1, 0, 6, 9, 1, 19, 1, 1, 1, 1, 1, 1, 1, 1] rfl (by decide +kernel)
set_option maxRecDepth 20000 in
theorem gX3_queueWhereRead_X1_isQueuedIn : GoodIn wsX3_queueWhereRead (wsV RX3 129 RX1 yX1_isQueuedIn wsX1_isQueuedIn) := goodIn_app (goodIn_of _ (by decide +kernel)) ggX3_queueWhereRead_X1_isQueuedIn
set_option maxRecDepth 20000 in
theorem ggX3_queueWhereRead_X3_readersIn : GoodIn wsX3_queueWhereRead wsX3_readersIn := goodIn_ca (goodIn_g _ [20, 1, 1, 5, 1, 1, 1, 1, 1, 1, 1, 10, 1, 1, 1, 1, 1, 1, 1, 1, 1, 1, 1, 0, 35, 1, 1, 1, 1, 1, 1, 1, 1] rfl (by decide +kernel)) (goodIn_sub (fun _ h => List.mem_cons_of_mem _ (List.mem_append_right _ h)) (by decide +kernel))
set_option maxRecDepth 20000 in
theorem gX3_queueWhereRead_X3_readersIn : GoodIn wsX3_queueWhereRead (wsV RX3 198 RX3 yX3_readersIn wsX3_readersIn) := goodIn_app (goodIn_of _ (by decide +kernel)) ggX3_queueWhereRead_X3_readersIn
set_option maxRecDepth 20000 in
theorem ggX3_queueWhereRead_X1_putInto : GoodIn wsX3_queueWhereRead wsX1_putInto := goodIn_g _ [26, 0, 8, 27, 1, 1, 1, 1, 1, 1, 1, 1] rfl (by decide +kernel)
set_option maxRecDepth 20000 in
theorem gX3_queueWhereRead_X1_putInto : GoodIn wsX3_queueWhereRead (wsV RX3 133 RX1 yX1_putInto wsX1_putInto) := goodIn_app (goodIn_of _ (by decide +kernel)) ggX3_queueWhereRead_X1_putInto
set_option maxRecDepth 20000 in
theorem ggX3_isSuspect_X3_readersIn : GoodIn wsX3_isSuspect wsX3_readersIn := goodIn_ca (goodIn_g _ [6, 1, 1, 10, 1, 1, 1, 1, 1, 1, 1, 1, 1, 1, 1, 1, 1, 1, 1, 1, 1, 1, 1, 1, 1, 1, 1, 1, 1, 1, 1, 1] rfl (by decide +kernel)) (goodIn_sub (fun _ h => List.mem_cons_of_mem _ (List.mem_append_right _ h)) (by decide +kernel))
set_option maxRecDepth 20000 in
theorem gX3_isSuspect_X3_readersIn : GoodIn wsX3_isSuspect (wsV RX3 198 RX3 yX3_readersIn wsX3_readersIn) := goodIn_app (goodIn_of _ (by decide +kernel)) ggX3_isSuspect_X3_readersIn
set_option maxRecDepth 20000 in
theorem ggX3_isSuspect_X1_canHaveMade : GoodIn wsX3_isSuspect wsX1_canHaveMade := goodIn_g _ [13, 1, 1, 0, 5, 11, 1, 21, 1, 1, 1, 1, 1, 1, 1, 1] rfl (by decide +kernel)
set_option maxRecDepth 20000 in
theorem gX3_isSuspect_X1_canHaveMade : GoodIn wsX3_isSuspect (wsV RX3 270 RX1 yX1_canHaveMade wsX1_canHaveMade) := goodIn_app (goodIn_of _ (by decide +kernel)) ggX3_isSuspect_X1_canHaveMade
set_option maxRecDepth 20000 in
theorem ggX3_suspectsAhead_X3_readersIn : GoodIn wsX3_suspectsAhead wsX3_readersIn := goodIn_ca (goodIn_g _ [8, 1, 1, 14, 1, 1, 1, 1, 1, 1, 1, 10, 1, 1, 1, 1, 1, 1, 1, 1, 1, 1, 1, 0, 32, 1, 1, 1, 1, 1, 1, 1, 1] rfl (by decide +kernel)) (goodIn_sub (fun _ h => List.mem_cons_of_mem _ (List.mem_append_right _ h)) (by decide +kernel))
set_option maxRecDepth 20000 in
theorem gX3_suspectsAhead_X3_readersIn : GoodIn wsX3_suspectsAhead (wsV RX3 198 RX3 yX3_readersIn wsX3_readersIn) := goodIn_app (goodIn_of _ (by decide +kernel)) ggX3_suspectsAhead_X3_readersIn
set_option maxRecDepth 20000 in
theorem ggX3_suspectsAhead_X3_isSuspect : GoodIn wsX3_suspectsAhead wsX3_isSuspect := goodIn_ca (goodIn_g _ [14, 0, 4, 1, 1, 1, 1, 1, 1, 5, 1, 1, 1, 1, 1, 1, 1, 1, 1, 1, 1, 1, 1, 1, 1, 1, 10, 1, 1, 1, 1, 1, 1, 1, 1, 1, 1, 1, 0, 32, 1, 1, 1, 1, 1, 1, 1, 1] rfl (by decide +kernel)) (goodIn_sub (fun _ h => List.mem_cons_of_mem _ (List.mem_append_right _ h)) (by decide +kernel))
set_option maxRecDepth 20000 in
theorem gX3_suspectsAhead_X3_isSuspect : GoodIn wsX3_suspectsAhead (wsV RX3 208 RX3 yX3_isSuspect wsX3_isSuspect) := goodIn_app (goodIn_of _ (by decide +kernel)) ggX3_suspectsAhead_X3_isSuspect
set_option maxRecDepth 20000 in
theorem ggX3_letHourComeTo_X0_chargeBy : GoodIn wsX3_letHourComeTo wsX0_chargeBy := goodIn_g _ [10, 1, 1, 1, 1, 1, 75, 1, 1, 1, 1, 1, 1, 1, 1, 1, 1, 1] rfl (by decide +kernel)
set_option maxRecDepth 20000 in
theorem gX3_letHourComeTo_X0_chargeBy : GoodIn wsX3_letHourComeTo (wsV RX3 273 RX0 yX0_chargeBy wsX0_chargeBy) := goodIn_app (goodIn_of _ (by decide +kernel)) ggX3_letHourComeTo_X0_chargeBy
set_option maxRecDepth 20000 in
theorem ggX3_letHourComeTo_X1_isOf : GoodIn wsX3_letHourComeTo wsX1_isOf := goodIn_g _ [20, 1, 1, 80, 1, 1, 1, 1, 1, 1, 1, 1] rfl (by decide +kernel)
set_option maxRecDepth 20000 in
theorem gX3_letHourComeTo_X1_isOf : GoodIn wsX3_letHourComeTo (wsV RX3 185 RX1 yX1_isOf wsX1_isOf) := goodIn_app (goodIn_of _ (by decide +kernel)) ggX3_letHourComeTo_X1_isOf
set_option maxRecDepth 20000 in
theorem ggX3_letHourComeTo_X0_wipe : GoodIn wsX3_letHourComeTo wsX0_wipe := goodIn_ca (goodIn_g _ [26, 1, 1, 1, 1, 1, 1, 0, 9, 24, 0, 11, 23, 1, 1, 1, 1, 1, 1, 1, 1, 1, 1, 1, 1, 1, 1, 1, 1, 1, 1, 1, 37, 1, 1, 1, 1, 1, 1, 1, 1, 1, 1, 1] rfl (by decide +kernel)) (goodIn_sub (fun _ h => List.mem_cons_of_mem _ (List.mem_append_right _ h)) (by decide +kernel))
set_option maxRecDepth 20000 in
theorem gX3_letHourComeTo_X0_wipe : GoodIn wsX3_letHourComeTo (wsV RX3 276 RX0 yX0_wipe wsX0_wipe) := goodIn_app (goodIn_of _ (by decide +kernel)) ggX3_letHourComeTo_X0_wipe
set_option maxRecDepth 20000 in
theorem ggX3_letHourComeTo_X1_isQueuedIn : GoodIn wsX3_letHourComeTo wsX1_isQueuedIn := goodIn_g _ [57, 1, 0, 43, 1, 1, 14, 1, 1, 0, 19, 43, 0, 22, 80, 1, 1, 1, 1, 1, 1, 1, 1] rfl (by decide +kernel)
set_option maxRecDepth 20000 in
theorem gX3_letHourComeTo_X1_isQueuedIn : GoodIn wsX3_letHourComeTo (wsV RX3 129 RX1 yX1_isQueuedIn wsX1_isQueuedIn) := goodIn_app (goodIn_of _ (by decide +kernel)) ggX3_letHourComeTo_X1_isQueuedIn
set_option maxRecDepth 20000 in
theorem ggX3_letHourComeTo_X0_takesUp : GoodIn wsX3_letHourComeTo wsX0_takesUp := goodIn_ca (goodIn_g _ [66, 0, 28, 0, 27, 2, 38, 1, 1, 0, 9, 61, 1, 0, 44, 28, 1, 1, 1, 1, 1, 0, 53, 0, 11, 25, 1, 1, 1, 1, 1, 1, 36, 1, 1, 1, 0, 52, 0, 51, 0, 30, 1, 1, 1, 1, 1, 8, 2, 1, 1, 1, 1, 1, 40, 1, 1, 1, 1, 1, 1, 1, 1, 1, 1, 1, 1, 1, 1, 1, 1, 1, 1, 1, 1] rfl (by decide +kernel)) (goodIn_sub (fun _ h => List.mem_cons_of_mem _ (List.mem_append_right _ h)) (by decide +kernel))
set_option maxRecDepth 20000 in
theorem gX3_letHourComeTo_X0_takesUp : GoodIn wsX3_letHourComeTo (wsV RX3 279 RX0 yX0_takesUp wsX0_takesUp) := goodIn_app (goodIn_of _ (by decide +kernel)) ggX3_letHourComeTo_X0_takesUp
set_option maxRecDepth 20000 in
theorem ggL_pick_L_cell : GoodIn wsL_pick wsL_cell := goodIn_ca (goodIn_g _ [5, 1, 1] rfl (by decide +kernel)) (goodIn_sub (fun _ h => List.mem_cons_of_mem _ (List.mem_append_right _ h)) (by decide +kernel))
set_option maxRecDepth 20000 in
theorem gL_pick_L_cell : GoodIn wsL_pick (va_wsS RL 9 yL_cell wsL_cell) := goodIn_app (goodIn_of _ (by decide +kernel)) ggL_pick_L_cell
set_option maxRecDepth 20000 in
theorem ggL_plain_X3_addBoard : GoodIn wsL_plain wsX3_addBoard := goodIn_ca (goodIn_ca (goodIn_g _ [6, 1, 1, 1, 1, 1, 1, 1, 1, 0, 5, 10, 1, 1, 1, 1, 1, 1, 1, 267, 1, 1, 1, 1, 1, 1, 1, 1, 1, 1, 1, 1, 1, 1, 1, 1, 1, 1, 1] rfl (by decide +kernel)) (goodIn_sub (fun _ h => List.mem_cons_of_mem _ (List.mem_append_left _ (List.mem_append_left _ (List.mem_append_left _ (List.mem_append_left _ (List.mem_append_right _ h)))))) (by decide +kernel))) (goodIn_sub (fun _ h => List.mem_cons_of_mem _ (List.mem_append_left _ (List.mem_append_left _ (List.mem_append_left _ (List.mem_append_right _ h))))) (by decide +kernel))
set_option maxRecDepth 20000 in
theorem gL_plain_X3_addBoard : GoodIn wsL_plain (wsV RL 15 RX3 yX3_addBoard wsX3_addBoard) := goodIn_app (goodIn_of _ (by decide +kernel)) ggL_plain_X3_addBoard
set_option maxRecDepth 20000 in
theorem ggL_plain_X3_setSun : GoodIn wsL_plain wsX3_setSun := goodIn_ca (goodIn_g _ [26, 0, 7, 1, 19, 262, 1, 1, 1, 1, 1, 1, 1] rfl (by decide +kernel)) (goodIn_sub (fun _ h => List.mem_cons_of_mem _ (List.mem_append_left _ (List.mem_append_left _ (List.mem_append_left _ (List.mem_append_left _ (List.mem_append_right _ h)))))) (by decide +kernel))
set_option maxRecDepth 20000 in
theorem gL_plain_X3_setSun : GoodIn wsL_plain (wsV RL 21 RX3 yX3_setSun wsX3_setSun) := goodIn_app (goodIn_of _ (by decide +kernel)) ggL_plain_X3_setSun
set_option maxRecDepth 20000 in
theorem ggL_plain_X3_charge : GoodIn wsL_plain wsX3_charge := goodIn_ca (goodIn_g _ [31, 1, 1, 1, 0, 5, 30, 1, 1, 0, 11, 1, 285, 1, 1, 1, 1, 1, 1, 1, 1, 1, 1, 1, 0, 289, 1, 1, 1, 1, 1, 1, 1] rfl (by decide +kernel)) (goodIn_sub (fun _ h => List.mem_cons_of_mem _ (List.mem_append_left _ (List.mem_append_left _ (List.mem_append_right _ h)))) (by decide +kernel))
set_option maxRecDepth 20000 in
theorem gL_plain_X3_charge : GoodIn wsL_plain (wsV RL 25 RX3 yX3_charge wsX3_charge) := goodIn_app (goodIn_of _ (by decide +kernel)) ggL_plain_X3_charge
set_option maxRecDepth 20000 in
theorem ggL_plain_X3_cell : GoodIn wsL_plain wsX3_cell := goodIn_ca (goodIn_g _ [41, 0, 32, 1, 1, 0, 5, 30, 1, 1, 0, 11, 1, 30, 1, 1, 1, 1, 1, 250, 1, 1, 1, 1, 1, 1, 1, 1, 1, 1, 1, 0, 289, 1, 1, 1, 1, 1, 1, 1] rfl (by decide +kernel)) (goodIn_sub (fun _ h => List.mem_cons_of_mem _ (List.mem_append_left _ (List.mem_append_left _ (List.mem_append_right _ h)))) (by decide +kernel))
set_option maxRecDepth 20000 in
theorem gL_plain_X3_cell : GoodIn wsL_plain (wsV RL 28 RX3 yX3_cell wsX3_cell) := goodIn_app (goodIn_of _ (by decide +kernel)) ggL_plain_X3_cell
set_option maxRecDepth 20000 in
theorem ggL_plain_X3_wear : GoodIn wsL_plain wsX3_wear := goodIn_ca (goodIn_ca (goodIn_g _ [51, 0, 32, 1, 1, 0, 5, 30, 1, 1, 0, 11, 1, 30, 1, 1, 8, 1, 1, 0, 19, 36, 1, 233, 1, 1, 1, 1, 1, 1, 1, 1, 1, 1, 1, 1, 1, 1, 1, 1, 1, 1, 1] rfl (by decide +kernel)) (goodIn_sub (fun _ h => List.mem_cons_of_mem _ (List.mem_append_left _ (List.mem_append_left _ (List.mem_append_right _ h)))) (by decide +kernel))) (goodIn_sub (fun _ h => List.mem_cons_of_mem _ (List.mem_append_left _ (List.mem_append_right _ h))) (by decide +kernel))
set_option maxRecDepth 20000 in
theorem gL_plain_X3_wear : GoodIn wsL_plain (wsV RL 31 RX3 yX3_wear wsX3_wear) := goodIn_app (goodIn_of _ (by decide +kernel)) ggL_plain_X3_wear
set_option maxRecDepth 20000 in
theorem ggL_plain_X3_shows : GoodIn wsL_plain wsX3_shows := goodIn_ca (goodIn_g _ [60, 0, 32, 1, 1, 0, 5, 30, 1, 1, 0, 11, 1, 285, 1, 1, 1, 1, 1, 1, 1, 1, 1, 1, 1, 1, 1, 1, 1, 1, 1, 1, 1, 1, 0, 289, 1, 1, 1, 1, 1, 1, 1] rfl (by decide +kernel)) (goodIn_sub (fun _ h => List.mem_cons_of_mem _ (List.mem_append_left _ (List.mem_append_left _ (List.mem_append_right _ h)))) (by decide +kernel))
set_option maxRecDepth 20000 in
theorem gL_plain_X3_shows : GoodIn wsL_plain (wsV RL 34 RX3 yX3_shows wsX3_shows) := goodIn_app (goodIn_of _ (by decide +kernel)) ggL_plain_X3_shows
set_option maxRecDepth 20000 in
theorem ggL_plain_X3_shift : GoodIn wsL_plain wsX3_shift := goodIn_ca (goodIn_g _ [64, 0, 32, 1, 1, 0, 5, 30, 1, 1, 0, 11, 1, 285, 1, 1, 1, 1, 1, 1, 1, 1, 1, 1, 1, 0, 289, 1, 1, 1, 1, 1, 1, 1] rfl (by decide +kernel)) (goodIn_sub (fun _ h => List.mem_cons_of_mem _ (List.mem_append_left _ (List.mem_append_left _ (List.mem_append_right _ h)))) (by decide +kernel))
set_option maxRecDepth 20000 in
theorem gL_plain_X3_shift : GoodIn wsL_plain (wsV RL 37 RX3 yX3_shift wsX3_shift) := goodIn_app (goodIn_of _ (by decide +kernel)) ggL_plain_X3_shift
set_option maxRecDepth 20000 in
theorem ggL_plain_X3_sleeps : GoodIn wsL_plain wsX3_sleeps := goodIn_ca (goodIn_g _ [68, 0, 32, 1, 1, 0, 5, 30, 1, 1, 0, 11, 1, 285, 1, 1, 1, 1, 1, 1, 1, 1, 1, 1, 1, 0, 289, 1, 1, 1, 1, 1, 1, 1] rfl (by decide +kernel)) (goodIn_sub (fun _ h => List.mem_cons_of_mem _ (List.mem_append_left _ (List.mem_append_left _ (List.mem_append_right _ h)))) (by decide +kernel))
set_option maxRecDepth 20000 in
theorem gL_plain_X3_sleeps : GoodIn wsL_plain (wsV RL 40 RX3 yX3_sleeps wsX3_sleeps) := goodIn_app (goodIn_of _ (by decide +kernel)) ggL_plain_X3_sleeps
set_option maxRecDepth 20000 in
theorem ggL_plain_L_told : GoodIn wsL_plain wsL_told := goodIn_g _ [72] rfl (by decide +kernel)
set_option maxRecDepth 20000 in
theorem gL_plain_L_told : GoodIn wsL_plain (va_wsS RL 44 yL_told wsL_told) := goodIn_app (goodIn_of _ (by decide +kernel)) ggL_plain_L_told
set_option maxRecDepth 20000 in
theorem ggL_plain_X3_post : GoodIn wsL_plain wsX3_post := goodIn_ca (goodIn_ca (goodIn_g _ [76, 0, 7, 1, 69, 1, 1, 0, 5, 75, 0, 9, 1, 71, 1, 1, 1, 1, 1, 1, 1, 1, 1, 1, 1, 217, 1, 1, 1, 1, 1, 1, 1, 1, 0, 289, 1, 1, 1, 1, 1, 1, 1] rfl (by decide +kernel)) (goodIn_sub (fun _ h => List.mem_cons_of_mem _ (List.mem_append_left _ (List.mem_append_left _ (List.mem_append_left _ (List.mem_append_left _ (List.mem_append_right _ h)))))) (by decide +kernel))) (goodIn_sub (fun _ h => List.mem_cons_of_mem _ (List.mem_append_left _ (List.mem_append_left _ (List.mem_append_left _ (List.mem_append_right _ h))))) (by decide +kernel))
set_option maxRecDepth 20000 in
theorem gL_plain_X3_post : GoodIn wsL_plain (wsV RL 48 RX3 yX3_post wsX3_post) := goodIn_app (goodIn_of _ (by decide +kernel)) ggL_plain_X3_post
set_option maxRecDepth 20000 in
theorem ggL_plain_X3_queue : GoodIn wsL_plain wsX3_queue := goodIn_ca (goodIn_ca (goodIn_ca (goodIn_g _ [96, 1, 1, 1, 1, 1, 1, 0, 5, 98, 0, 36, 1, 44, 1, 0, 13, 1, 1, 0, 7, 1, 96, 1, 1, 0, 87, 20, 1, 0, 46, 1, 62, 1, 1, 1, 0, 92, 21, 1, 1, 1, 193, 1, 1, 1, 1, 1, 1, 1, 1, 0, 289, 1, 1, 1, 1, 1, 1, 1] rfl (by decide +kernel)) (goodIn_sub (fun _ h => List.mem_cons_of_mem _ (List.mem_append_right _ h)) (by decide +kernel))) (goodIn_sub (fun _ h => List.mem_cons_of_mem _ (List.mem_append_left _ (List.mem_append_left _ (List.mem_append_right _ h)))) (by decide +kernel))) (goodIn_sub (fun _ h => List.mem_cons_of_mem _ (List.mem_append_left _ (List.mem_append_left _ (List.mem_append_left _ (List.mem_append_left _ (List.mem_append_right _ h)))))) (by decide +kernel))
set_option maxRecDepth 20000 in
theorem gL_plain_X3_queue : GoodIn wsL_plain (wsV RL 52 RX3 yX3_queue wsX3_queue) := goodIn_app (goodIn_of _ (by decide +kernel)) ggL_plain_X3_queue
set_option maxRecDepth 20000 in
theorem ggL_plain_X3_takeBack : GoodIn wsL_plain wsX3_takeBack := goodIn_ca (goodIn_ca (goodIn_ca (goodIn_g _ [120, 0, 7, 1, 89, 1, 1, 1, 1, 1, 0, 5, 98, 0, 36, 1, 44, 1, 39, 1, 1, 1, 0, 11, 1, 277, 1, 1, 1, 1, 1, 1, 1, 13, 1, 1, 1, 1, 1, 1, 1, 1, 0, 297, 1, 1, 1, 1, 1, 1, 1, 1, 1, 1, 1] rfl (by decide +kernel)) (goodIn_sub (fun _ h => List.mem_cons_of_mem _ (List.mem_append_left _ (List.mem_append_left _ (List.mem_append_left _ (List.mem_append_left _ (List.mem_append_right _ h)))))) (by decide +kernel))) (goodIn_sub (fun _ h => List.mem_cons_of_mem _ (List.mem_append_right _ h)) (by decide +kernel))) (goodIn_sub (fun _ h => List.mem_cons_of_mem _ (List.mem_append_left _ (List.mem_append_left _ (List.mem_append_right _ h)))) (by decide +kernel))
set_option maxRecDepth 20000 in
theorem gL_plain_X3_takeBack : GoodIn wsL_plain (wsV RL 56 RX3 yX3_takeBack wsX3_takeBack) := goodIn_app (goodIn_of _ (by decide +kernel)) ggL_plain_X3_takeBack
set_option maxRecDepth 20000 in
theorem ggL_plain_X3_mend : GoodIn wsL_plain wsX3_mend := goodIn_ca (goodIn_ca (goodIn_ca (goodIn_ca (goodIn_ca (goodIn_g _ [128, 0, 7, 1, 89, 1, 1, 30, 1, 1, 1, 1, 1, 1, 0, 100, 1, 1, 0, 5, 98, 0, 36, 1, 44, 1, 54, 0, 110, 1, 0, 87, 25, 0, 92, 0, 77, 1, 1, 1, 0, 9, 1, 73, 1, 1, 1, 2, 1, 1, 1, 46, 1, 1, 1, 0, 104, 1, 1, 1, 1, 0, 46, 1, 62, 32, 1, 1, 1, 0, 11, 1, 101, 1, 1, 1, 193, 1, 1, 1, 1, 1, 1, 1, 1, 0, 289, 1, 1, 1, 1, 1, 1, 1, 1, 1, 1, 1, 1, 1, 1, 1, 1, 1, 1, 1] rfl (by decide +kernel)) (goodIn_sub (fun _ h => List.mem_cons_of_mem _ (List.mem_append_left _ (List.mem_append_left _ (List.mem_append_left _ (List.mem_append_left _ (List.mem_append_right _ h)))))) (by decide +kernel))) (goodIn_sub (fun _ h => List.mem_cons_of_mem _ (List.mem_append_right _ h)) (by decide +kernel))) (goodIn_sub (fun _ h => List.mem_cons_of_mem _ (List.mem_append_left _ (List.mem_append_left _ (List.mem_append_right _ h)))) (by decide +kernel))) (goodIn_sub (fun _ h => List.mem_cons_of_mem _ (List.mem_append_left _ (List.mem_append_left _ (List.mem_append_left _ (List.mem_append_right _ h))))) (by decide +kernel))) (goodIn_sub (fun _ h => List.mem_cons_of_mem _ (List.mem_append_left _ (List.mem_append_right _ h))) (by decide +kernel))
set_option maxRecDepth 20000 in
theorem gL_plain_X3_mend : GoodIn wsL_plain (wsV RL 59 RX3 yX3_mend wsX3_mend) := goodIn_app (goodIn_of _ (by decide +kernel)) ggL_plain_X3_mend
set_option maxRecDepth 20000 in
theorem ggL_plain_X3_deny : GoodIn wsL_plain wsX3_deny := goodIn_ca (goodIn_ca (goodIn_g _ [148, 0, 7, 1, 91, 0, 13, 1, 0, 5, 10, 62, 1, 1, 1, 0, 9, 1, 71, 1, 1, 1, 1, 1, 1, 1, 1, 1, 1, 1, 21, 1, 1, 1, 0, 108, 181, 1, 1, 1, 1, 1, 1, 1, 13, 1, 1, 1, 1, 1, 1, 1, 1] rfl (by decide +kernel)) (goodIn_sub (fun _ h => List.mem_cons_of_mem _ (List.mem_append_left _ (List.mem_append_left _ (List.mem_append_left _ (List.mem_append_left _ (List.mem_append_right _ h)))))) (by decide +kernel))) (goodIn_sub (fun _ h => List.mem_cons_of_mem _ (List.mem_append_left _ (List.mem_append_left _ (List.mem_append_left _ (List.mem_append_right _ h))))) (by decide +kernel))
set_option maxRecDepth 20000 in
theorem gL_plain_X3_deny : GoodIn wsL_plain (wsV RL 62 RX3 yX3_deny wsX3_deny) := goodIn_app (goodIn_of _ (by decide +kernel)) ggL_plain_X3_deny
set_option maxRecDepth 20000 in
theorem ggL_plain_X3_queued : GoodIn wsL_plain wsX3_queued := goodIn_ca (goodIn_g _ [152, 0, 81, 1, 17, 0, 13, 1, 0, 5, 10, 0, 7, 1, 96, 1, 1, 0, 87, 20, 1, 0, 46, 1, 62, 1, 1, 1, 0, 92, 197, 1, 1, 1, 1, 1, 1, 1, 13, 1, 1, 1, 1, 1, 1, 1, 1] rfl (by decide +kernel)) (goodIn_sub (fun _ h => List.mem_cons_of_mem _ (List.mem_append_left _ (List.mem_append_left _ (List.mem_append_left _ (List.mem_append_left _ (List.mem_append_right _ h)))))) (by decide +kernel))
set_option maxRecDepth 20000 in
theorem gL_plain_X3_queued : GoodIn wsL_plain (wsV RL 65 RX3 yX3_queued wsX3_queued) := goodIn_app (goodIn_of _ (by decide +kernel)) ggL_plain_X3_queued
set_option maxRecDepth 20000 in
theorem ggL_plain_X3_queuedAt : GoodIn wsL_plain wsX3_queuedAt := goodIn_ca (goodIn_ca (goodIn_g _ [156, 0, 36, 1, 44, 2, 16, 0, 13, 1, 0, 5, 10, 0, 7, 1, 96, 1, 1, 0, 87, 20, 1, 0, 46, 1, 62, 1, 1, 1, 0, 92, 197, 1, 1, 1, 1, 1, 1, 1, 13, 1, 1, 1, 1, 1, 1, 1, 1] rfl (by decide +kernel)) (goodIn_sub (fun _ h => List.mem_cons_of_mem _ (List.mem_append_left _ (List.mem_append_left _ (List.mem_append_right _ h)))) (by decide +kernel))) (goodIn_sub (fun _ h => List.mem_cons_of_mem _ (List.mem_append_left _ (List.mem_append_left _ (List.mem_append_left _ (List.mem_append_left _ (List.mem_append_right _ h)))))) (by decide +kernel))
set_option maxRecDepth 20000 in
theorem gL_plain_X3_queuedAt : GoodIn wsL_plain (wsV RL 68 RX3 yX3_queuedAt wsX3_queuedAt) := goodIn_app (goodIn_of _ (by decide +kernel)) ggL_plain_X3_queuedAt
set_option maxRecDepth 20000 in
theorem ggL_plain_X3_isDue : GoodIn wsL_plain wsX3_isDue := goodIn_ca (goodIn_g _ [160, 0, 99, 1, 1, 1, 0, 5, 98, 0, 36, 1, 44, 1, 79, 1, 1, 0, 87, 77, 0, 91, 1, 197, 1, 1, 1, 1, 1, 1, 1, 13, 1, 1, 1, 1, 1, 1, 1, 1] rfl (by decide +kernel)) (goodIn_sub (fun _ h => List.mem_cons_of_mem _ (List.mem_append_left _ (List.mem_append_left _ (List.mem_append_right _ h)))) (by decide +kernel))
set_option maxRecDepth 20000 in
theorem gL_plain_X3_isDue : GoodIn wsL_plain (wsV RL 71 RX3 yX3_isDue wsX3_isDue) := goodIn_app (goodIn_of _ (by decide +kernel)) ggL_plain_X3_isDue
set_option maxRecDepth 20000 in
theorem ggL_plain_X3_pass : GoodIn wsL_plain wsX3_pass := goodIn_ca (goodIn_ca (goodIn_ca (goodIn_g _ [168, 0, 7, 1, 161, 0, 99, 0, 32, 1, 1, 0, 5, 30, 1, 1, 0, 11, 1, 158, 1, 1, 1, 1, 1, 1, 1, 1, 1, 1, 1, 1, 115, 1, 1, 1, 1, 1, 1, 1, 1, 1, 1, 1, 1, 1, 1, 1, 1, 1, 1, 1, 1, 0, 289, 1, 1, 1, 1, 1, 1, 1, 22, 1, 1, 1] rfl (by decide +kernel)) (goodIn_sub (fun _ h => List.mem_cons_of_mem _ (List.mem_append_left _ (List.mem_append_left _ (List.mem_append_left _ (List.mem_append_left _ (List.mem_append_right _ h)))))) (by decide +kernel))) (goodIn_sub (fun _ h => List.mem_cons_of_mem _ (List.mem_append_left _ (List.mem_append_right _ h))) (by decide +kernel))) (goodIn_sub (fun _ h => List.mem_cons_of_mem _ (List.mem_append_left _ (List.mem_append_left _ (List.mem_append_right _ h)))) (by decide +kernel))
set_option maxRecDepth 20000 in
theorem gL_plain_X3_pass : GoodIn wsL_plain (wsV RL 74 RX3 yX3_pass wsX3_pass) := goodIn_app (goodIn_of _ (by decide +kernel)) ggL_plain_X3_pass
set_option maxRecDepth 20000 in
theorem ggL_plain_X3_readers : GoodIn wsL_plain wsX3_readers := goodIn_ca (goodIn_ca (goodIn_ca (goodIn_g _ [186, 0, 100, 1, 1, 0, 5, 98, 0, 36, 1, 44, 1, 0, 13, 1, 1, 0, 7, 1, 133, 1, 1, 1, 0, 11, 1, 277, 1, 1, 1, 1, 1, 1, 1, 1, 1, 1, 1, 1, 1, 1, 1, 1, 1, 1, 1, 1, 1, 1, 1, 1, 1, 1, 1, 1] rfl (by decide +kernel)) (goodIn_sub (fun _ h => List.mem_cons_of_mem _ (List.mem_append_left _ (List.mem_append_left _ (List.mem_append_right _ h)))) (by decide +kernel))) (goodIn_sub (fun _ h => List.mem_cons_of_mem _ (List.mem_append_left _ (List.mem_append_left _ (List.mem_append_left _ (List.mem_append_left _ (List.mem_append_right _ h)))))) (by decide +kernel))) (goodIn_sub (fun _ h => List.mem_cons_of_mem _ (List.mem_append_left _ (List.mem_append_right _ h))) (by decide +kernel))
set_option maxRecDepth 20000 in
theorem gL_plain_X3_readers : GoodIn wsL_plain (wsV RL 77 RX3 yX3_readers wsX3_readers) := goodIn_app (goodIn_of _ (by decide +kernel)) ggL_plain_X3_readers
set_option maxRecDepth 20000 in
theorem ggL_plain_X3_readIn : GoodIn wsL_plain wsX3_readIn := goodIn_ca (goodIn_ca (goodIn_g _ [190, 0, 169, 0, 100, 1, 1, 0, 5, 98, 0, 36, 1, 44, 1, 109, 1, 1, 0, 173, 21, 0, 178, 1, 1, 1, 1, 0, 175, 1, 1, 112, 1, 1, 1, 1, 1, 1, 1, 13, 1, 1, 1, 1, 1, 1, 1, 1, 1, 1, 1, 1] rfl (by decide +kernel)) (goodIn_sub (fun _ h => List.mem_cons_of_mem _ (List.mem_append_left _ (List.mem_append_left _ (List.mem_append_right _ h)))) (by decide +kernel))) (goodIn_sub (fun _ h => List.mem_cons_of_mem _ (List.mem_append_left _ (List.mem_append_right _ h))) (by decide +kernel))
set_option maxRecDepth 20000 in
theorem gL_plain_X3_readIn : GoodIn wsL_plain (wsV RL 80 RX3 yX3_readIn wsX3_readIn) := goodIn_app (goodIn_of _ (by decide +kernel)) ggL_plain_X3_readIn
set_option maxRecDepth 20000 in
theorem ggL_plain_X3_suspects : GoodIn wsL_plain wsX3_suspects := goodIn_ca (goodIn_ca (goodIn_g _ [198, 0, 81, 1, 117, 1, 0, 5, 196, 0, 7, 1, 5, 1, 1, 187, 1, 1, 1, 0, 141, 1, 1, 1, 0, 11, 1, 194, 1, 1, 0, 87, 122, 0, 90, 120, 1, 1, 77, 1, 1, 1, 1, 1, 1, 1, 1, 1, 1, 1, 1, 1, 1, 1, 1, 1, 1, 1, 1, 1, 1, 1, 1, 1, 1, 1, 1] rfl (by decide +kernel)) (goodIn_sub (fun _ h => List.mem_cons_of_mem _ (List.mem_append_left _ (List.mem_append_left _ (List.mem_append_left _ (List.mem_append_left _ (List.mem_append_right _ h)))))) (by decide +kernel))) (goodIn_sub (fun _ h => List.mem_cons_of_mem _ (List.mem_append_left _ (List.mem_append_right _ h))) (by decide +kernel))
set_option maxRecDepth 20000 in
theorem gL_plain_X3_suspects : GoodIn wsL_plain (wsV RL 83 RX3 yX3_suspects wsX3_suspects) := goodIn_app (goodIn_of _ (by decide +kernel)) ggL_plain_X3_suspects
set_option maxRecDepth 20000 in
theorem ggL_plain_X3_suspectAt : GoodIn wsL_plain wsX3_suspectAt := goodIn_ca (goodIn_ca (goodIn_ca (goodIn_g _ [216, 0, 36, 1, 44, 1, 117, 1, 0, 5, 196, 0, 7, 1, 5, 1, 1, 187, 1, 1, 1, 0, 141, 1, 1, 1, 0, 11, 1, 194, 1, 1, 0, 87, 122, 0, 90, 120, 1, 1, 5, 1, 1, 1, 69, 1, 1, 1, 1, 1, 1, 1, 1, 1, 1, 1, 1, 1, 1, 1, 1, 1, 1, 1, 1, 1, 1, 1, 1, 1, 1, 1, 1] rfl (by decide +kernel)) (goodIn_sub (fun _ h => List.mem_cons_of_mem _ (List.mem_append_left _ (List.mem_append_left _ (List.mem_append_right _ h)))) (by decide +kernel))) (goodIn_sub (fun _ h => List.mem_cons_of_mem _ (List.mem_append_left _ (List.mem_append_left _ (List.mem_append_left _ (List.mem_append_left _ (List.mem_append_right _ h)))))) (by decide +kernel))) (goodIn_sub (fun _ h => List.mem_cons_of_mem _ (List.mem_append_left _ (List.mem_append_right _ h))) (by decide +kernel))
set_option maxRecDepth 20000 in
theorem gL_plain_X3_suspectAt : GoodIn wsL_plain (wsV RL 86 RX3 yX3_suspectAt wsX3_suspectAt) := goodIn_app (goodIn_of _ (by decide +kernel)) ggL_plain_X3_suspectAt
set_option maxRecDepth 20000 in
theorem ggL_plain_X3_go : GoodIn wsL_plain wsX3_go := goodIn_ca (goodIn_ca (goodIn_ca (goodIn_g _ [224, 0, 7, 1, 1, 1, 89, 0, 11, 1, 213, 1, 1, 0, 5, 223, 0, 27, 54, 2, 146, 1, 1, 0, 19, 213, 0, 22, 211, 0, 130, 1, 1, 29, 1, 1, 0, 87, 77, 0, 91, 1, 142, 1, 1, 1, 1, 1, 1, 1, 1, 1, 1, 1, 1, 1, 1, 1, 1, 1, 1, 1, 0, 46, 1, 207, 1, 1, 1, 0, 56, 202, 1, 1, 0, 104, 1, 1, 1, 1, 1, 1, 1, 1, 149, 1, 1, 1, 1, 1, 1, 1, 0, 210, 1, 1, 57, 1, 1, 1, 1, 1, 1, 1, 13, 1, 1, 1, 1, 1, 1, 1, 1, 1, 1, 1, 1, 1, 1, 1, 1, 1, 1, 1, 1, 1, 1, 1, 1, 1, 1, 1, 1] rfl (by decide +kernel)) (goodIn_sub (fun _ h => List.mem_cons_of_mem _ (List.mem_append_left _ (List.mem_append_left _ (List.mem_append_left _ (List.mem_append_left _ (List.mem_append_right _ h)))))) (by decide +kernel))) (goodIn_sub (fun _ h => List.mem_cons_of_mem _ (List.mem_append_left _ (List.mem_append_left _ (List.mem_append_left _ (List.mem_append_right _ h))))) (by decide +kernel))) (goodIn_sub (fun _ h => List.mem_cons_of_mem _ (List.mem_append_left _ (List.mem_append_right _ h))) (by decide +kernel))
set_option maxRecDepth 20000 in
theorem gL_plain_X3_go : GoodIn wsL_plain (wsV RL 89 RX3 yX3_go wsX3_go) := goodIn_app (goodIn_of _ (by decide +kernel)) ggL_plain_X3_go
set_option maxRecDepth 20000 in
theorem ggL_plain_X3_cellAnew : GoodIn wsL_plain wsX3_cellAnew := goodIn_ca (goodIn_ca (goodIn_g _ [280, 0, 32, 1, 1, 0, 5, 30, 1, 1, 0, 11, 1, 269, 1, 1, 0, 19, 265, 0, 245, 1, 0, 42, 1, 1, 1, 1, 1, 242, 1, 1, 1, 1, 1, 1, 1, 1, 1, 1, 1, 1, 1, 1, 1, 1, 1, 1, 1] rfl (by decide +kernel)) (goodIn_sub (fun _ h => List.mem_cons_of_mem _ (List.mem_append_left _ (List.mem_append_left _ (List.mem_append_right _ h)))) (by decide +kernel))) (goodIn_sub (fun _ h => List.mem_cons_of_mem _ (List.mem_append_left _ (List.mem_append_right _ h))) (by decide +kernel))
set_option maxRecDepth 20000 in
theorem gL_plain_X3_cellAnew : GoodIn wsL_plain (wsV RL 92 RX3 yX3_cellAnew wsX3_cellAnew) := goodIn_app (goodIn_of _ (by decide +kernel)) ggL_plain_X3_cellAnew
set_option maxRecDepth 20000 in
theorem ggL_plain_X3_worst : GoodIn wsL_plain wsX3_worst := goodIn_ca (goodIn_g _ [288, 0, 32, 1, 1, 0, 5, 30, 1, 1, 0, 11, 1, 285, 1, 1, 1, 1, 1, 1, 1, 1, 1, 1, 1, 0, 289, 1, 1, 1, 1, 1, 1, 1] rfl (by decide +kernel)) (goodIn_sub (fun _ h => List.mem_cons_of_mem _ (List.mem_append_left _ (List.mem_append_left _ (List.mem_append_right _ h)))) (by decide +kernel))
set_option maxRecDepth 20000 in
theorem gL_plain_X3_worst : GoodIn wsL_plain (wsV RL 95 RX3 yX3_worst wsX3_worst) := goodIn_app (goodIn_of _ (by decide +kernel)) ggL_plain_X3_worst
set_option maxRecDepth 20000 in
theorem ggL_deed_L_plain : GoodIn wsL_deed wsL_plain := goodIn_ca (goodIn_ca (goodIn_ca (goodIn_ca (goodIn_ca (goodIn_g _ [6, 1, 1, 1, 1, 1, 1, 1, 1, 1, 1, 1, 1, 1, 1, 1, 1, 1, 1, 1, 1, 1, 1, 1, 1, 1, 1, 1, 1, 1, 1, 1, 1, 1, 1, 1, 1, 1, 1, 1, 1, 1, 1, 1, 1, 1, 1, 1, 1, 1, 1, 1, 1, 1, 1, 1, 1, 1, 1, 1, 1, 1, 1, 1, 1, 1, 1, 1, 1, 1, 0, 5, 71, 1, 1, 1, 1, 1, 1, 1, 1, 1, 1, 1, 1, 1, 1, 1, 1, 1, 1, 1, 1, 1, 1, 1, 1, 1, 1, 1, 1, 1, 1, 1, 1, 1, 1, 1, 1, 1, 1, 1, 1, 1, 1, 1, 1, 1, 1, 1, 1, 1, 1, 1, 1, 1, 1, 1, 1, 1, 1, 1, 1, 1, 1, 1, 1, 1, 1, 1, 1, 1, 1, 1, 1, 1, 1, 1, 1, 1, 1, 1, 1, 1, 1, 1, 1, 1, 1, 1, 1, 1, 1, 1, 1, 1, 1, 1, 1, 1, 1, 1, 1, 1, 1, 1, 1, 1, 1, 1, 1, 1, 1, 1, 1, 1, 1, 1, 1, 1, 1, 1, 1, 1, 1, 1, 1, 1, 1, 1, 1, 1, 1, 1, 1, 1, 1, 1, 1, 1, 1, 1, 1, 1, 1, 1, 1, 1, 1, 1, 1, 1, 1, 1, 1, 1, 1, 1, 1, 1, 1, 1, 1, 1, 1, 1, 1, 1, 1, 1, 1, 1, 1, 1, 1, 1, 1, 1, 1, 1, 1, 1, 1, 1, 1, 1, 1, 1, 1, 1, 1, 1, 1, 1, 1, 1, 1, 1, 1, 1, 1, 1, 1, 1, 1, 1, 1, 1, 1, 1, 1, 1, 1, 1, 1, 1, 1, 1, 1, 1, 1, 1, 1, 1, 1, 1, 1, 1, 1, 1, 1, 1, 1, 1, 1, 1, 1, 1, 1, 1, 1, 1, 1, 1, 1, 1, 1, 1, 1, 1, 1, 1] rfl (by decide +kernel)) (goodIn_sub (fun _ h => List.mem_cons_of_mem _ (List.mem_append_left _ (List.mem_append_left _ (List.mem_append_left _ (List.mem_append_left _ (List.mem_append_right _ h)))))) (by decide +kernel))) (goodIn_sub (fun _ h => List.mem_cons_of_mem _ (List.mem_append_left _ (List.mem_append_left _ (List.mem_append_left _ (List.mem_append_right _ h))))) (by decide +kernel))) (goodIn_sub (fun _ h => List.mem_cons_of_mem _ (List.mem_append_left _ (List.mem_append_left _ (List.mem_append_right _ h)))) (by decide +kernel))) (goodIn_sub (fun _ h => List.mem_cons_of_mem _ (List.mem_append_left _ (List.mem_append_right _ h))) (by decide +kernel))) (goodIn_sub (fun _ h => List.mem_cons_of_mem _ (List.mem_append_right _ h)) (by decide +kernel))
set_option maxRecDepth 20000 in
theorem gL_deed_L_plain : GoodIn wsL_deed (va_wsS RL 98 yL_plain wsL_plain) := goodIn_app (goodIn_of _ (by decide +kernel)) ggL_deed_L_plain
set_option maxRecDepth 20000 in
theorem ggL_ask_L_deed : GoodIn wsL_ask wsL_deed := goodIn_ca (goodIn_ca (goodIn_ca (goodIn_ca (goodIn_ca (goodIn_g _ [5, 1, 1, 1, 0, 4, 5, 1, 1, 1, 1, 1, 1, 1, 1, 1, 1, 1, 1, 1, 1, 1, 1, 1, 1, 1, 1, 1, 1, 1, 1, 1, 1, 1, 1, 1, 1, 1, 1, 1, 1, 1, 1, 1, 1, 1, 1, 1, 1, 1, 1, 1, 1, 1, 1, 1, 1, 1, 1, 1, 1, 1, 1, 1, 1, 1, 1, 1, 1, 1, 1, 1, 1, 1, 1, 1, 1, 1, 1, 1, 1, 1, 1, 1, 1, 1, 1, 1, 1, 1, 1, 1, 1, 1, 1, 1, 1, 1, 1, 1, 1, 1, 1, 1, 1, 1, 1, 1, 1, 1, 1, 1, 1, 1, 1, 1, 1, 1, 1, 1, 1, 1, 1, 1, 1, 1, 1, 1, 1, 1, 1, 1, 1, 1, 1, 1, 1, 1, 1, 1, 1, 1, 1, 1, 1, 1, 1, 1, 1, 1, 1, 1, 1, 1, 1, 1, 1, 1, 1, 1, 1, 1, 1, 1, 1, 1, 1, 1, 1, 1, 1, 1, 1, 1, 1, 1, 1, 1, 1, 1, 1, 1, 1, 1, 1, 1, 1, 1, 1, 1, 1, 1, 1, 1, 1, 1, 1, 1, 1, 1, 1, 1, 1, 1, 1, 1, 1, 1, 1, 1, 1, 1, 1, 1, 1, 1, 1, 1, 1, 1, 1, 1, 1, 1, 1, 1, 1, 1, 1, 1, 1, 1, 1, 1, 1, 1, 1, 1, 1, 1, 1, 1, 1, 1, 1, 1, 1, 1, 1, 1, 1, 1, 1, 1, 1, 1, 1, 1, 1, 1, 1, 1, 1, 1, 1, 1, 1, 1, 1, 1, 1, 1, 1, 1, 1, 1, 1, 1, 1, 1, 1, 1, 1, 1, 1, 1, 1, 1, 1, 1, 1, 1, 1, 1, 1, 1, 1, 1, 1, 1, 1, 1, 1, 1, 1, 1, 1, 1, 1, 1, 1, 1, 1, 1, 1, 1, 1, 1, 1, 1, 1, 1, 1, 1, 1, 1] rfl (by decide +kernel)) (goodIn_sub (fun _ h => List.mem_cons_of_mem _ (List.mem_append_left _ (List.mem_append_left _ (List.mem_append_left _ (List.mem_append_left _ (List.mem_append_right _ h)))))) (by decide +kernel))) (goodIn_sub (fun _ h => List.mem_cons_of_mem _ (List.mem_append_left _ (List.mem_append_left _ (List.mem_append_left _ (List.mem_append_right _ h))))) (by decide +kernel))) (goodIn_sub (fun _ h => List.mem_cons_of_mem _ (List.mem_append_left _ (List.mem_append_left _ (List.mem_append_right _ h)))) (by decide +kernel))) (goodIn_sub (fun _ h => List.mem_cons_of_mem _ (List.mem_append_left _ (List.mem_append_right _ h))) (by decide +kernel))) (goodIn_sub (fun _ h => List.mem_cons_of_mem _ (List.mem_append_right _ h)) (by decide +kernel))
set_option maxRecDepth 20000 in
theorem gL_ask_L_deed : GoodIn wsL_ask (va_wsS RL 112 yL_deed wsL_deed) := goodIn_app (goodIn_of _ (by decide +kernel)) ggL_ask_L_deed
set_option maxRecDepth 20000 in
theorem ggL_seen_L_deed : GoodIn wsL_seen wsL_deed := goodIn_ca (goodIn_ca (goodIn_ca (goodIn_ca (goodIn_ca (goodIn_g _ [5, 1, 1, 1, 0, 4, 5, 1, 1, 1, 1, 1, 1, 1, 1, 1, 1, 1, 1, 1, 1, 1, 1, 1, 1, 1, 1, 1, 1, 1, 1, 1, 1, 1, 1, 1, 1, 1, 1, 1, 1, 1, 1, 1, 1, 1, 1, 1, 1, 1, 1, 1, 1, 1, 1, 1, 1, 1, 1, 1, 1, 1, 1, 1, 1, 1, 1, 1, 1, 1, 1, 1, 1, 1, 1, 1, 1, 1, 1, 1, 1, 1, 1, 1, 1, 1, 1, 1, 1, 1, 1, 1, 1, 1, 1, 1, 1, 1, 1, 1, 1, 1, 1, 1, 1, 1, 1, 1, 1, 1, 1, 1, 1, 1, 1, 1, 1, 1, 1, 1, 1, 1, 1, 1, 1, 1, 1, 1, 1, 1, 1, 1, 1, 1, 1, 1, 1, 1, 1, 1, 1, 1, 1, 1, 1, 1, 1, 1, 1, 1, 1, 1, 1, 1, 1, 1, 1, 1, 1, 1, 1, 1, 1, 1, 1, 1, 1, 1, 1, 1, 1, 1, 1, 1, 1, 1, 1, 1, 1, 1, 1, 1, 1, 1, 1, 1, 1, 1, 1, 1, 1, 1, 1, 1, 1, 1, 1, 1, 1, 1, 1, 1, 1, 1, 1, 1, 1, 1, 1, 1, 1, 1, 1, 1, 1, 1, 1, 1, 1, 1, 1, 1, 1, 1, 1, 1, 1, 1, 1, 1, 1, 1, 1, 1, 1, 1, 1, 1, 1, 1, 1, 1, 1, 1, 1, 1, 1, 1, 1, 1, 1, 1, 1, 1, 1, 1, 1, 1, 1, 1, 1, 1, 1, 1, 1, 1, 1, 1, 1, 1, 1, 1, 1, 1, 1, 1, 1, 1, 1, 1, 1, 1, 1, 1, 1, 1, 1, 1, 1, 1, 1, 1, 1, 1, 1, 1, 1, 1, 1, 1, 1, 1, 1, 1, 1, 1, 1, 1, 1, 1, 1, 1, 1, 1, 1, 1, 1, 1, 1, 1, 1, 1, 1, 1, 1, 1] rfl (by decide +kernel)) (goodIn_sub (fun _ h => List.mem_cons_of_mem _ (List.mem_append_left _ (List.mem_append_left _ (List.mem_append_left _ (List.mem_append_left _ (List.mem_append_right _ h)))))) (by decide +kernel))) (goodIn_sub (fun _ h => List.mem_cons_of_mem _ (List.mem_append_left _ (List.mem_append_left _ (List.mem_append_left _ (List.mem_append_right _ h))))) (by decide +kernel))) (goodIn_sub (fun _ h => List.mem_cons_of_mem _ (List.mem_append_left _ (List.mem_append_left _ (List.mem_append_right _ h)))) (by decide +kernel))) (goodIn_sub (fun _ h => List.mem_cons_of_mem _ (List.mem_append_left _ (List.mem_append_right _ h))) (by decide +kernel))) (goodIn_sub (fun _ h => List.mem_cons_of_mem _ (List.mem_append_right _ h)) (by decide +kernel))
set_option maxRecDepth 20000 in
theorem gL_seen_L_deed : GoodIn wsL_seen (va_wsS RL 112 yL_deed wsL_deed) := goodIn_app (goodIn_of _ (by decide +kernel)) ggL_seen_L_deed
set_option maxRecDepth 20000 in
theorem ggL_word_L_pick : GoodIn wsL_word wsL_pick := goodIn_ca (goodIn_ca (goodIn_g _ [5, 1, 1, 0, 4, 4, 1, 1] rfl (by decide +kernel)) (goodIn_sub (fun _ h => List.mem_cons_of_mem _ (List.mem_append_left _ (List.mem_append_right _ h))) (by decide +kernel))) (goodIn_sub (fun _ h => List.mem_cons_of_mem _ (List.mem_append_right _ h)) (by decide +kernel))
set_option maxRecDepth 20000 in
theorem gL_word_L_pick : GoodIn wsL_word (va_wsS RL 117 yL_pick wsL_pick) := goodIn_app (goodIn_of _ (by decide +kernel)) ggL_word_L_pick
set_option maxRecDepth 20000 in
theorem ggL_word_L_cell : GoodIn wsL_word wsL_cell := goodIn_ca (goodIn_g _ [8, 1, 1] rfl (by decide +kernel)) (goodIn_sub (fun _ h => List.mem_cons_of_mem _ (List.mem_append_right _ h)) (by decide +kernel))
set_option maxRecDepth 20000 in
theorem gL_word_L_cell : GoodIn wsL_word (va_wsS RL 9 yL_cell wsL_cell) := goodIn_app (goodIn_of _ (by decide +kernel)) ggL_word_L_cell
set_option maxRecDepth 20000 in
theorem ggL_isRight_L_ask : GoodIn wsL_isRight wsL_ask := goodIn_ca (goodIn_ca (goodIn_ca (goodIn_ca (goodIn_ca (goodIn_g _ [13, 1, 1, 0, 12, 4, 1, 1, 1, 1, 1, 1, 1, 1, 1, 1, 1, 1, 1, 1, 1, 1, 1, 1, 1, 1, 1, 1, 1, 1, 1, 1, 1, 1, 1, 1, 1, 1, 1, 1, 1, 1, 1, 1, 1, 1, 1, 1, 1, 1, 1, 1, 1, 1, 1, 1, 1, 1, 1, 1, 1, 1, 1, 1, 1, 1, 1, 1, 1, 1, 1, 1, 1, 1, 1, 1, 1, 1, 1, 1, 1, 1, 1, 1, 1, 1, 1, 1, 1, 1, 1, 1, 1, 1, 1, 1, 1, 1, 1, 1, 1, 1, 1, 1, 1, 1, 1, 1, 1, 1, 1, 1, 1, 1, 1, 1, 1, 1, 1, 1, 1, 1, 1, 1, 1, 1, 1, 1, 1, 1, 1, 1, 1, 1, 1, 1, 1, 1, 0, 4, 145, 1, 0, 3, 2, 146, 1, 1, 1, 1, 1, 1, 1, 1, 1, 1, 1, 1, 1, 1, 1, 1, 1, 1, 1, 1, 1, 1, 1, 1, 1, 1, 1, 1, 1, 1, 1, 1, 1, 1, 1, 1, 1, 1, 1, 1, 1, 1, 1, 1, 1, 1, 1, 1, 1, 1, 1, 1, 1, 1, 1, 1, 1, 1, 1, 1, 1, 1, 1, 1, 1, 1, 1, 1, 1, 1, 1, 1, 1, 1, 1, 1, 1, 1, 1, 1, 1, 1, 1, 1, 1, 1, 1, 1, 1, 1, 1, 1, 1, 1, 1, 1, 1, 1, 1, 1, 1, 1, 1, 1, 1, 1, 1, 1, 1, 1, 1, 1, 1, 1, 1, 1, 1, 1, 1, 1, 1, 1, 1, 1, 1, 1, 1, 1, 1, 1, 1, 1, 1, 1, 1, 1, 1, 1, 1, 1, 1, 1, 1, 1, 1, 1, 1, 1, 1, 1, 1, 1, 42, 1, 1, 1, 1, 1, 1, 1, 1, 1, 1, 1, 1, 1, 1, 1, 1, 1, 1, 1, 1, 1, 1, 1, 1, 1, 1, 1, 1, 1, 1, 1, 1] rfl (by decide +kernel)) (goodIn_sub (fun _ h => List.mem_cons_of_mem _ (List.mem_append_left _ (List.mem_append_left _ (List.mem_append_left _ (List.mem_append_left _ (List.mem_append_right _ h)))))) (by decide +kernel))) (goodIn_sub (fun _ h => List.mem_cons_of_mem _ (List.mem_append_left _ (List.mem_append_left _ (List.mem_append_left _ (List.mem_append_right _ h))))) (by decide +kernel))) (goodIn_sub (fun _ h => List.mem_cons_of_mem _ (List.mem_append_left _ (List.mem_append_left _ (List.mem_append_right _ h)))) (by decide +kernel))) (goodIn_sub (fun _ h => List.mem_cons_of_mem _ (List.mem_append_left _ (List.mem_append_left _ (List.mem_append_left _ (List.mem_append_left _ (List.mem_append_left _ (List.mem_append_right _ h))))))) (by decide +kernel))) (goodIn_sub (fun _ h => List.mem_cons_of_mem _ (List.mem_append_left _ (List.mem_append_right _ h))) (by decide +kernel))
set_option maxRecDepth 20000 in
theorem gL_isRight_L_ask : GoodIn wsL_isRight (va_wsS RL 121 yL_ask wsL_ask) := goodIn_app (goodIn_of _ (by decide +kernel)) ggL_isRight_L_ask
set_option maxRecDepth 20000 in
theorem ggL_isRight_L_seen : GoodIn wsL_isRight wsL_seen := goodIn_ca (goodIn_ca (goodIn_ca (goodIn_ca (goodIn_ca (goodIn_g _ [306, 0, 14, 1, 0, 12, 4, 1, 1, 1, 1, 1, 1, 1, 1, 1, 1, 1, 1, 1, 1, 1, 1, 1, 1, 1, 1, 1, 1, 1, 1, 1, 1, 1, 1, 1, 1, 1, 1, 1, 1, 1, 1, 1, 1, 1, 1, 1, 1, 1, 1, 1, 1, 1, 1, 1, 1, 1, 1, 1, 1, 1, 1, 1, 1, 1, 1, 1, 1, 1, 1, 1, 1, 1, 1, 1, 1, 1, 1, 1, 1, 1, 1, 1, 1, 1, 1, 1, 1, 1, 1, 1, 1, 1, 1, 1, 1, 1, 1, 1, 1, 1, 1, 1, 1, 1, 1, 1, 1, 1, 1, 1, 1, 1, 1, 1, 1, 1, 1, 1, 1, 1, 1, 1, 1, 1, 1, 1, 1, 1, 1, 1, 1, 1, 1, 1, 1, 1, 1, 0, 4, 145, 1, 0, 3, 2, 146, 1, 1, 1, 1, 1, 1, 1, 1, 1, 1, 1, 1, 1, 1, 1, 1, 1, 1, 1, 1, 1, 1, 1, 1, 1, 1, 1, 1, 1, 1, 1, 1, 1, 1, 1, 1, 1, 1, 1, 1, 1, 1, 1, 1, 1, 1, 1, 1, 1, 1, 1, 1, 1, 1, 1, 1, 1, 1, 1, 1, 1, 1, 1, 1, 1, 1, 1, 1, 1, 1, 1, 1, 1, 1, 1, 1, 1, 1, 1, 1, 1, 1, 1, 1, 1, 1, 1, 1, 1, 1, 1, 1, 1, 1, 1, 1, 1, 1, 1, 1, 1, 1, 1, 1, 1, 1, 1, 1, 1, 1, 1, 1, 1, 1, 1, 1, 1, 1, 1, 1, 1, 1, 1, 1, 1, 1, 1, 1, 1, 1, 1, 1, 1, 1, 1, 1, 1, 1, 1, 1, 1, 1, 1, 1, 1, 1, 1, 1, 1, 1, 1, 1, 42, 1, 1, 1, 1, 1, 1, 1, 1, 1, 1, 1, 1, 1, 1, 1, 1, 1, 1, 1, 1, 1, 1, 1, 1, 1, 1, 1, 1, 1, 1, 1, 1] rfl (by decide +kernel)) (goodIn_sub (fun _ h => List.mem_cons_of_mem _ (List.mem_append_left _ (List.mem_append_left _ (List.mem_append_left _ (List.mem_append_left _ (List.mem_append_right _ h)))))) (by decide +kernel))) (goodIn_sub (fun _ h => List.mem_cons_of_mem _ (List.mem_append_left _ (List.mem_append_left _ (List.mem_append_left _ (List.mem_append_right _ h))))) (by decide +kernel))) (goodIn_sub (fun _ h => List.mem_cons_of_mem _ (List.mem_append_left _ (List.mem_append_left _ (List.mem_append_right _ h)))) (by decide +kernel))) (goodIn_sub (fun _ h => List.mem_cons_of_mem _ (List.mem_append_left _ (List.mem_append_left _ (List.mem_append_left _ (List.mem_append_left _ (List.mem_append_left _ (List.mem_append_right _ h))))))) (by decide +kernel))) (goodIn_sub (fun _ h => List.mem_cons_of_mem _ (List.mem_append_left _ (List.mem_append_right _ h))) (by decide +kernel))
set_option maxRecDepth 20000 in
theorem gL_isRight_L_seen : GoodIn wsL_isRight (va_wsS RL 125 yL_seen wsL_seen) := goodIn_app (goodIn_of _ (by decide +kernel)) ggL_isRight_L_seen
set_option maxRecDepth 20000 in
theorem ggL_isRight_L_shifted : GoodIn wsL_isRight wsL_shifted := goodIn_g _ [309, 1, 1] rfl (by decide +kernel)
set_option maxRecDepth 20000 in
theorem gL_isRight_L_shifted : GoodIn wsL_isRight (va_wsS RL 129 yL_shifted wsL_shifted) := goodIn_app (goodIn_of _ (by decide +kernel)) ggL_isRight_L_shifted
set_option maxRecDepth 20000 in
theorem ggL_isRight_L_deed : GoodIn wsL_isRight wsL_deed := goodIn_ca (goodIn_ca (goodIn_ca (goodIn_ca (goodIn_ca (goodIn_g _ [16, 1, 1, 1, 0, 12, 8, 1, 1, 1, 1, 1, 1, 1, 1, 1, 1, 1, 1, 1, 1, 1, 1, 1, 1, 1, 1, 1, 1, 1, 1, 1, 1, 1, 1, 1, 1, 1, 1, 1, 1, 1, 1, 1, 1, 1, 1, 1, 1, 1, 1, 1, 1, 1, 1, 1, 1, 1, 1, 1, 1, 1, 1, 1, 1, 1, 1, 1, 1, 1, 1, 1, 1, 1, 1, 1, 1, 1, 1, 1, 1, 1, 1, 1, 1, 1, 1, 1, 1, 1, 1, 1, 1, 1, 1, 1, 1, 1, 1, 1, 1, 1, 1, 1, 1, 1, 1, 1, 1, 1, 1, 1, 1, 1, 1, 1, 1, 1, 1, 1, 1, 1, 1, 1, 1, 1, 1, 1, 1, 1, 1, 1, 1, 1, 1, 0, 4, 145, 1, 0, 3, 2, 146, 1, 1, 1, 1, 1, 1, 1, 1, 1, 1, 1, 1, 1, 1, 1, 1, 1, 1, 1, 1, 1, 1, 1, 1, 1, 1, 1, 1, 1, 1, 1, 1, 1, 1, 1, 1, 1, 1, 1, 1, 1, 1, 1, 1, 1, 1, 1, 1, 1, 1, 1, 1, 1, 1, 1, 1, 1, 1, 1, 1, 1, 1, 1, 1, 1, 1, 1, 1, 1, 1, 1, 1, 1, 1, 1, 1, 1, 1, 1, 1, 1, 1, 1, 1, 1, 1, 1, 1, 1, 1, 1, 1, 1, 1, 1, 1, 1, 1, 1, 1, 1, 1, 1, 1, 1, 1, 1, 1, 1, 1, 1, 1, 1, 1, 1, 1, 1, 1, 1, 1, 1, 1, 1, 1, 1, 1, 1, 1, 1, 1, 1, 1, 1, 1, 1, 1, 1, 1, 1, 1, 1, 1, 1, 1, 1, 1, 1, 1, 1, 1, 1, 1, 42, 1, 1, 1, 1, 1, 1, 1, 1, 1, 1, 1, 1, 1, 1, 1, 1, 1, 1, 1, 1, 1, 1, 1, 1, 1, 1, 1, 1, 1, 1, 1, 1] rfl (by decide +kernel)) (goodIn_sub (fun _ h => List.mem_cons_of_mem _ (List.mem_append_left _ (List.mem_append_left _ (List.mem_append_left _ (List.mem_append_left _ (List.mem_append_right _ h)))))) (by decide +kernel))) (goodIn_sub (fun _ h => List.mem_cons_of_mem _ (List.mem_append_left _ (List.mem_append_left _ (List.mem_append_left _ (List.mem_append_right _ h))))) (by decide +kernel))) (goodIn_sub (fun _ h => List.mem_cons_of_mem _ (List.mem_append_left _ (List.mem_append_left _ (List.mem_append_right _ h)))) (by decide +kernel))) (goodIn_sub (fun _ h => List.mem_cons_of_mem _ (List.mem_append_left _ (List.mem_append_left _ (List.mem_append_left _ (List.mem_append_left _ (List.mem_append_left _ (List.mem_append_right _ h))))))) (by decide +kernel))) (goodIn_sub (fun _ h => List.mem_cons_of_mem _ (List.mem_append_left _ (List.mem_append_right _ h))) (by decide +kernel))
set_option maxRecDepth 20000 in
theorem gL_isRight_L_deed : GoodIn wsL_isRight (va_wsS RL 112 yL_deed wsL_deed) := goodIn_app (goodIn_of _ (by decide +kernel)) ggL_isRight_L_deed
set_option maxRecDepth 20000 in
theorem ggL_isRight_J6_bitCount_0f7a4 : GoodIn wsL_isRight wsJ6_bitCount_0f7a4 := goodIn_g _ [265, 1, 1, 1] rfl (by decide +kernel)
set_option maxRecDepth 20000 in
theorem gL_isRight_J6_bitCount_0f7a4 : GoodIn wsL_isRight (va_wsS RL 141 yJ6_bitCount_0f7a4 wsJ6_bitCount_0f7a4) := goodIn_app (goodIn_of _ (by decide +kernel)) ggL_isRight_J6_bitCount_0f7a4
set_option maxRecDepth 20000 in
theorem ggL_isRight_X3_changes : GoodIn wsL_isRight wsX3_changes := goodIn_ca (goodIn_g _ [316, 0, 30, 1, 286, 1, 1, 0, 38, 282, 0, 75, 270, 1, 1, 1, 1, 1, 1, 1, 1, 1, 1, 1, 1, 1, 1, 1, 1, 1, 1, 1] rfl (by decide +kernel)) (goodIn_sub (fun _ h => List.mem_cons_of_mem _ (List.mem_append_left _ (List.mem_append_left _ (List.mem_append_left _ (List.mem_append_left _ (List.mem_append_left _ (List.mem_append_right _ h))))))) (by decide +kernel))
set_option maxRecDepth 20000 in
theorem gL_isRight_X3_changes : GoodIn wsL_isRight (wsV RL 146 RX3 yX3_changes wsX3_changes) := goodIn_app (goodIn_of _ (by decide +kernel)) ggL_isRight_X3_changes
set_option maxRecDepth 20000 in
theorem ggL_isRight_X3_checksum : GoodIn wsL_isRight wsX3_checksum := goodIn_ca (goodIn_g _ [324, 0, 30, 1, 294, 0, 64, 1, 0, 24, 42, 5, 1, 1, 0, 38, 36, 1, 270, 1, 1, 1, 1, 1, 1, 1, 1, 1, 1, 1, 1, 1, 1, 1, 1, 1, 1, 1] rfl (by decide +kernel)) (goodIn_sub (fun _ h => List.mem_cons_of_mem _ (List.mem_append_left _ (List.mem_append_left _ (List.mem_append_left _ (List.mem_append_left _ (List.mem_append_left _ (List.mem_append_right _ h))))))) (by decide +kernel))
set_option maxRecDepth 20000 in
theorem gL_isRight_X3_checksum : GoodIn wsL_isRight (wsV RL 150 RX3 yX3_checksum wsX3_checksum) := goodIn_app (goodIn_of _ (by decide +kernel)) ggL_isRight_X3_checksum
set_option maxRecDepth 20000 in
theorem ggL_isRight_X3_meanWear : GoodIn wsL_isRight wsX3_meanWear := goodIn_ca (goodIn_ca (goodIn_g _ [329, 1, 1, 0, 30, 302, 0, 314, 1, 0, 24, 292, 0, 31, 286, 1, 1, 0, 38, 282, 0, 75, 270, 1, 1, 1, 1, 1, 1, 1, 1, 1, 1, 1, 1, 1, 1, 1, 1, 1, 1, 1] rfl (by decide +kernel)) (goodIn_sub (fun _ h => List.mem_cons_of_mem _ (List.mem_append_right _ h)) (by decide +kernel))) (goodIn_sub (fun _ h => List.mem_cons_of_mem _ (List.mem_append_left _ (List.mem_append_left _ (List.mem_append_left _ (List.mem_append_left _ (List.mem_append_left _ (List.mem_append_right _ h))))))) (by decide +kernel))
set_option maxRecDepth 20000 in
theorem gL_isRight_X3_meanWear : GoodIn wsL_isRight (wsV RL 153 RX3 yX3_meanWear wsX3_meanWear) := goodIn_app (goodIn_of _ (by decide +kernel)) ggL_isRight_X3_meanWear
set_option maxRecDepth 20000 in
theorem ggL_isRight_X3_shownShare : GoodIn wsL_isRight wsX3_shownShare := goodIn_ca (goodIn_g _ [336, 0, 330, 1, 0, 30, 1, 314, 1, 1, 1, 1, 1, 1, 1, 1, 1, 1, 1, 1, 1, 1, 1, 1, 1, 1, 1] rfl (by decide +kernel)) (goodIn_sub (fun _ h => List.mem_cons_of_mem _ (List.mem_append_right _ h)) (by decide +kernel))
set_option maxRecDepth 20000 in
theorem gL_isRight_X3_shownShare : GoodIn wsL_isRight (wsV RL 159 RX3 yX3_shownShare wsX3_shownShare) := goodIn_app (goodIn_of _ (by decide +kernel)) ggL_isRight_X3_shownShare
set_option maxRecDepth 20000 in
theorem ggL_isRight_X3_isSound : GoodIn wsL_isRight wsX3_isSound := goodIn_ca (goodIn_g _ [340, 0, 30, 1, 86, 59, 1, 1, 0, 105, 74, 0, 109, 1, 231, 1, 1, 0, 38, 306, 0, 253, 0, 75, 0, 41, 24, 0, 24, 42, 196, 1, 1, 1, 1, 1, 1, 28, 1, 1, 1, 0, 260, 1, 84, 1, 1, 1, 1, 1, 1, 1, 1, 1, 1, 1, 1, 1, 1, 1, 1, 1, 1, 1, 1, 1, 1, 1, 1, 1, 1, 1, 1] rfl (by decide +kernel)) (goodIn_sub (fun _ h => List.mem_cons_of_mem _ (List.mem_append_left _ (List.mem_append_left _ (List.mem_append_left _ (List.mem_append_left _ (List.mem_append_left _ (List.mem_append_right _ h))))))) (by decide +kernel))
set_option maxRecDepth 20000 in
theorem gL_isRight_X3_isSound : GoodIn wsL_isRight (wsV RL 164 RX3 yX3_isSound wsX3_isSound) := goodIn_app (goodIn_of _ (by decide +kernel)) ggL_isRight_X3_isSound
set_option maxRecDepth 20000 in
theorem ggL_areReadersRight_L_deed : GoodIn wsL_areReadersRight wsL_deed := goodIn_ca (goodIn_ca (goodIn_ca (goodIn_ca (goodIn_ca (goodIn_g _ [5, 1, 1, 1, 0, 4, 5, 1, 1, 1, 1, 1, 1, 1, 1, 1, 1, 1, 1, 1, 1, 1, 1, 1, 1, 1, 1, 1, 1, 1, 1, 1, 1, 1, 1, 1, 1, 1, 1, 1, 1, 1, 1, 1, 1, 1, 1, 1, 1, 1, 1, 1, 1, 1, 1, 1, 1, 1, 1, 1, 1, 1, 1, 1, 1, 1, 1, 1, 1, 1, 1, 1, 1, 1, 1, 1, 1, 1, 1, 1, 1, 1, 1, 1, 1, 1, 1, 1, 1, 1, 1, 1, 1, 1, 1, 1, 1, 1, 1, 1, 1, 1, 1, 1, 1, 1, 1, 1, 1, 1, 1, 1, 1, 1, 1, 1, 1, 1, 1, 1, 1, 1, 1, 1, 1, 1, 1, 1, 1, 1, 1, 1, 1, 1, 1, 1, 1, 1, 1, 1, 1, 1, 1, 1, 1, 1, 1, 1, 1, 1, 1, 1, 1, 1, 1, 1, 1, 1, 1, 1, 1, 1, 1, 1, 1, 1, 1, 1, 1, 1, 1, 1, 1, 1, 1, 1, 1, 1, 1, 1, 1, 1, 1, 1, 1, 1, 1, 1, 1, 1, 1, 1, 1, 1, 1, 1, 1, 1, 1, 1, 1, 1, 1, 1, 1, 1, 1, 1, 1, 1, 1, 1, 1, 1, 1, 1, 1, 1, 1, 1, 1, 1, 1, 1, 1, 1, 1, 1, 1, 1, 1, 1, 1, 1, 1, 1, 1, 1, 1, 1, 1, 1, 1, 1, 1, 1, 1, 1, 1, 1, 1, 1, 1, 1, 1, 1, 1, 1, 1, 1, 1, 1, 1, 1, 1, 1, 1, 1, 1, 1, 1, 1, 1, 1, 1, 1, 1, 1, 1, 1, 1, 1, 1, 1, 1, 1, 1, 1, 1, 1, 1, 1, 1, 5, 1, 1, 1, 1, 1, 1, 1, 1, 1, 1, 1, 1, 1, 1, 1, 1, 1, 1, 1, 1, 1, 1, 1, 1, 1, 1, 1, 1, 1, 1, 1, 1] rfl (by decide +kernel)) (goodIn_sub (fun _ h => List.mem_cons_of_mem _ (List.mem_append_left _ (List.mem_append_left _ (List.mem_append_left _ (List.mem_append_left _ (List.mem_append_right _ h)))))) (by decide +kernel))) (goodIn_sub (fun _ h => List.mem_cons_of_mem _ (List.mem_append_left _ (List.mem_append_left _ (List.mem_append_left _ (List.mem_append_right _ h))))) (by decide +kernel))) (goodIn_sub (fun _ h => List.mem_cons_of_mem _ (List.mem_append_left _ (List.mem_append_left _ (List.mem_append_right _ h)))) (by decide +kernel))) (goodIn_sub (fun _ h => List.mem_cons_of_mem _ (List.mem_append_left _ (List.mem_append_right _ h))) (by decide +kernel))) (goodIn_sub (fun _ h => List.mem_cons_of_mem _ (List.mem_append_right _ h)) (by decide +kernel))
set_option maxRecDepth 20000 in
theorem gL_areReadersRight_L_deed : GoodIn wsL_areReadersRight (va_wsS RL 112 yL_deed wsL_deed) := goodIn_app (goodIn_of _ (by decide +kernel)) ggL_areReadersRight_L_deed
set_option maxRecDepth 20000 in
theorem ggL_areReadersRight_X3_hour : GoodIn wsL_areReadersRight wsX3_hour := goodIn_g _ [299, 0, 106, 194, 1, 1, 1, 1, 1, 1, 1] rfl (by decide +kernel)
set_option maxRecDepth 20000 in
theorem gL_areReadersRight_X3_hour : GoodIn wsL_areReadersRight (wsV RL 168 RX3 yX3_hour wsX3_hour) := goodIn_app (goodIn_of _ (by decide +kernel)) ggL_areReadersRight_X3_hour
set_option maxRecDepth 20000 in
theorem ggL_areSuspects_L_word : GoodIn wsL_areSuspects wsL_word := goodIn_ca (goodIn_ca (goodIn_g _ [6, 1, 1, 0, 5, 4, 1, 1, 1, 1, 1] rfl (by decide +kernel)) (goodIn_sub (fun _ h => List.mem_cons_of_mem _ (List.mem_append_left _ (List.mem_append_left _ (List.mem_append_left _ (List.mem_append_left _ (List.mem_append_right _ h)))))) (by decide +kernel))) (goodIn_sub (fun _ h => List.mem_cons_of_mem _ (List.mem_append_left _ (List.mem_append_left _ (List.mem_append_left _ (List.mem_append_left _ (List.mem_append_left _ (List.mem_append_right _ h))))))) (by decide +kernel))
set_option maxRecDepth 20000 in
theorem gL_areSuspects_L_word : GoodIn wsL_areSuspects (va_wsS RL 172 yL_word wsL_word) := goodIn_app (goodIn_of _ (by decide +kernel)) ggL_areSuspects_L_word
set_option maxRecDepth 20000 in
theorem ggL_areSuspects_L_pick : GoodIn wsL_areSuspects wsL_pick := goodIn_ca (goodIn_ca (goodIn_g _ [9, 1, 1, 0, 5, 7, 1, 1] rfl (by decide +kernel)) (goodIn_sub (fun _ h => List.mem_cons_of_mem _ (List.mem_append_left _ (List.mem_append_left _ (List.mem_append_left _ (List.mem_append_left _ (List.mem_append_right _ h)))))) (by decide +kernel))) (goodIn_sub (fun _ h => List.mem_cons_of_mem _ (List.mem_append_left _ (List.mem_append_left _ (List.mem_append_left _ (List.mem_append_left _ (List.mem_append_left _ (List.mem_append_right _ h))))))) (by decide +kernel))
set_option maxRecDepth 20000 in
theorem gL_areSuspects_L_pick : GoodIn wsL_areSuspects (va_wsS RL 117 yL_pick wsL_pick) := goodIn_app (goodIn_of _ (by decide +kernel)) ggL_areSuspects_L_pick
set_option maxRecDepth 20000 in
theorem ggL_areSuspects_X3_notices : GoodIn wsL_areSuspects wsX3_notices := goodIn_g _ [19, 1, 300, 1, 1, 1, 1, 1, 1, 1] rfl (by decide +kernel)
set_option maxRecDepth 20000 in
theorem gL_areSuspects_X3_notices : GoodIn wsL_areSuspects (wsV RL 176 RX3 yX3_notices wsX3_notices) := goodIn_app (goodIn_of _ (by decide +kernel)) ggL_areSuspects_X3_notices
set_option maxRecDepth 20000 in
theorem ggL_areSuspects_L_shifted : GoodIn wsL_areSuspects wsL_shifted := goodIn_g _ [23, 1, 1] rfl (by decide +kernel)
set_option maxRecDepth 20000 in
theorem gL_areSuspects_L_shifted : GoodIn wsL_areSuspects (va_wsS RL 129 yL_shifted wsL_shifted) := goodIn_app (goodIn_of _ (by decide +kernel)) ggL_areSuspects_L_shifted
set_option maxRecDepth 20000 in
theorem ggL_areSuspects_L_deed : GoodIn wsL_areSuspects wsL_deed := goodIn_ca (goodIn_ca (goodIn_ca (goodIn_ca (goodIn_ca (goodIn_g _ [28, 1, 1, 1, 0, 5, 27, 1, 1, 1, 0, 18, 18, 1, 1, 1, 1, 1, 1, 1, 1, 1, 1, 1, 1, 1, 1, 1, 1, 1, 1, 1, 1, 1, 1, 1, 1, 1, 1, 1, 1, 1, 1, 1, 1, 1, 1, 1, 1, 1, 1, 1, 1, 1, 1, 1, 1, 1, 1, 1, 1, 1, 1, 1, 1, 1, 1, 1, 1, 1, 1, 1, 1, 1, 1, 1, 1, 1, 1, 1, 1, 1, 1, 1, 1, 1, 0, 20, 90, 1, 1, 1, 1, 1, 1, 1, 1, 1, 1, 1, 1, 1, 1, 1, 1, 1, 1, 1, 1, 1, 1, 1, 1, 1, 1, 1, 1, 1, 1, 1, 1, 1, 1, 1, 1, 1, 1, 1, 1, 1, 1, 1, 1, 1, 1, 1, 1, 1, 1, 1, 1, 1, 1, 1, 1, 1, 1, 1, 1, 1, 1, 1, 1, 1, 1, 1, 1, 1, 1, 1, 1, 1, 1, 1, 1, 1, 1, 1, 1, 1, 1, 1, 1, 1, 1, 1, 1, 1, 1, 1, 1, 1, 1, 1, 1, 1, 1, 1, 1, 1, 1, 1, 1, 1, 1, 1, 1, 1, 1, 1, 1, 1, 1, 1, 1, 1, 1, 1, 1, 1, 1, 1, 1, 1, 1, 1, 1, 1, 1, 1, 1, 1, 1, 1, 1, 1, 1, 1, 1, 1, 1, 1, 1, 1, 1, 1, 1, 1, 1, 1, 1, 1, 1, 1, 1, 1, 1, 1, 1, 1, 1, 1, 1, 1, 1, 1, 1, 1, 1, 1, 1, 1, 1, 1, 1, 1, 1, 1, 1, 1, 1, 1, 1, 1, 1, 1, 1, 1, 1, 1, 1, 1, 1, 1, 1, 1, 1, 1, 1, 1, 1, 1, 1, 1, 1, 4, 1, 1, 1, 1, 1, 1, 1, 1, 1, 1, 1, 1, 1, 1, 1, 1, 1, 1, 1, 1, 1, 1, 1, 1, 1, 1, 1, 1, 1, 1, 1, 1] rfl (by decide +kernel)) (goodIn_sub (fun _ h => List.mem_cons_of_mem _ (List.mem_append_left _ (List.mem_append_left _ (List.mem_append_left _ (List.mem_append_right _ h))))) (by decide +kernel))) (goodIn_sub (fun _ h => List.mem_cons_of_mem _ (List.mem_append_left _ (List.mem_append_left _ (List.mem_append_right _ h)))) (by decide +kernel))) (goodIn_sub (fun _ h => List.mem_cons_of_mem _ (List.mem_append_left _ (List.mem_append_right _ h))) (by decide +kernel))) (goodIn_sub (fun _ h => List.mem_cons_of_mem _ (List.mem_append_left _ (List.mem_append_left _ (List.mem_append_left _ (List.mem_append_left _ (List.mem_append_left _ (List.mem_append_right _ h))))))) (by decide +kernel))) (goodIn_sub (fun _ h => List.mem_cons_of_mem _ (List.mem_append_right _ h)) (by decide +kernel))
set_option maxRecDepth 20000 in
theorem gL_areSuspects_L_deed : GoodIn wsL_areSuspects (va_wsS RL 112 yL_deed wsL_deed) := goodIn_app (goodIn_of _ (by decide +kernel)) ggL_areSuspects_L_deed
set_option maxRecDepth 20000 in
theorem ggL_areSuspects_L_told : GoodIn wsL_areSuspects wsL_told := goodIn_g _ [101] rfl (by decide +kernel)
set_option maxRecDepth 20000 in
theorem gL_areSuspects_L_told : GoodIn wsL_areSuspects (va_wsS RL 44 yL_told wsL_told) := goodIn_app (goodIn_of _ (by decide +kernel)) ggL_areSuspects_L_told
set_option maxRecDepth 20000 in
theorem ggL_areSuspects_L_ask2 : GoodIn wsL_areSuspects wsL_ask2 := goodIn_ca (goodIn_ca (goodIn_ca (goodIn_ca (goodIn_ca (goodIn_g _ [319, 0, 26, 1, 0, 5, 23, 1, 1, 1, 1, 1, 1, 1, 0, 18, 18, 1, 1, 1, 1, 1, 1, 1, 1, 1, 1, 1, 1, 1, 1, 1, 1, 1, 1, 1, 1, 1, 1, 1, 1, 1, 1, 1, 1, 1, 1, 1, 1, 1, 1, 1, 1, 1, 1, 1, 1, 1, 1, 1, 1, 1, 1, 1, 1, 1, 1, 1, 1, 1, 1, 1, 1, 1, 1, 1, 1, 1, 1, 1, 1, 1, 1, 1, 1, 1, 1, 1, 1, 1, 0, 20, 90, 1, 1, 1, 1, 1, 1, 1, 1, 1, 1, 1, 1, 1, 1, 1, 1, 1, 1, 1, 1, 1, 1, 1, 1, 1, 1, 1, 1, 1, 1, 1, 1, 1, 1, 1, 1, 1, 1, 1, 1, 1, 1, 1, 1, 1, 1, 1, 1, 1, 1, 1, 1, 1, 1, 1, 1, 1, 1, 1, 1, 1, 1, 1, 1, 1, 1, 1, 1, 1, 1, 1, 1, 1, 1, 1, 1, 1, 1, 1, 1, 1, 1, 1, 1, 1, 1, 1, 1, 1, 1, 1, 1, 1, 1, 1, 1, 1, 1, 1, 1, 1, 1, 1, 1, 1, 1, 1, 1, 1, 1, 1, 1, 1, 1, 1, 1, 1, 1, 1, 1, 1, 1, 1, 1, 1, 1, 1, 1, 1, 1, 1, 1, 1, 1, 1, 1, 1, 1, 1, 1, 1, 1, 1, 1, 1, 1, 1, 1, 1, 1, 1, 1, 1, 1, 1, 1, 1, 1, 1, 1, 1, 1, 1, 1, 1, 1, 1, 1, 1, 1, 1, 1, 1, 1, 1, 1, 1, 1, 1, 1, 1, 1, 1, 1, 1, 1, 1, 1, 1, 1, 1, 1, 1, 1, 1, 1, 1, 1, 1, 1, 1, 1, 1, 1, 1, 1, 4, 1, 1, 1, 1, 1, 1, 1, 1, 1, 1, 1, 1, 1, 1, 1, 1, 1, 1, 1, 1, 1, 1, 1, 1, 1, 1, 1, 1, 1, 1, 1, 1] rfl (by decide +kernel)) (goodIn_sub (fun _ h => List.mem_cons_of_mem _ (List.mem_append_left _ (List.mem_append_left _ (List.mem_append_left _ (List.mem_append_right _ h))))) (by decide +kernel))) (goodIn_sub (fun _ h => List.mem_cons_of_mem _ (List.mem_append_left _ (List.mem_append_left _ (List.mem_append_right _ h)))) (by decide +kernel))) (goodIn_sub (fun _ h => List.mem_cons_of_mem _ (List.mem_append_left _ (List.mem_append_right _ h))) (by decide +kernel))) (goodIn_sub (fun _ h => List.mem_cons_of_mem _ (List.mem_append_left _ (List.mem_append_left _ (List.mem_append_left _ (List.mem_append_left _ (List.mem_append_left _ (List.mem_append_right _ h))))))) (by decide +kernel))) (goodIn_sub (fun _ h => List.mem_cons_of_mem _ (List.mem_append_right _ h)) (by decide +kernel))
set_option maxRecDepth 20000 in
theorem gL_areSuspects_L_ask2 : GoodIn wsL_areSuspects (va_wsS RL 179 yL_ask2 wsL_ask2) := goodIn_app (goodIn_of _ (by decide +kernel)) ggL_areSuspects_L_ask2
set_option maxRecDepth 20000 in
theorem ggL_ask2_L_deed : GoodIn wsL_ask2 wsL_deed := goodIn_ca (goodIn_ca (goodIn_ca (goodIn_ca (goodIn_ca (goodIn_g _ [5, 1, 1, 1, 0, 4, 5, 1, 1, 1, 1, 1, 1, 1, 1, 1, 1, 1, 1, 1, 1, 1, 1, 1, 1, 1, 1, 1, 1, 1, 1, 1, 1, 1, 1, 1, 1, 1, 1, 1, 1, 1, 1, 1, 1, 1, 1, 1, 1, 1, 1, 1, 1, 1, 1, 1, 1, 1, 1, 1, 1, 1, 1, 1, 1, 1, 1, 1, 1, 1, 1, 1, 1, 1, 1, 1, 1, 1, 1, 1, 1, 1, 1, 1, 1, 1, 1, 1, 1, 1, 1, 1, 1, 1, 1, 1, 1, 1, 1, 1, 1, 1, 1, 1, 1, 1, 1, 1, 1, 1, 1, 1, 1, 1, 1, 1, 1, 1, 1, 1, 1, 1, 1, 1, 1, 1, 1, 1, 1, 1, 1, 1, 1, 1, 1, 1, 1, 1, 1, 1, 1, 1, 1, 1, 1, 1, 1, 1, 1, 1, 1, 1, 1, 1, 1, 1, 1, 1, 1, 1, 1, 1, 1, 1, 1, 1, 1, 1, 1, 1, 1, 1, 1, 1, 1, 1, 1, 1, 1, 1, 1, 1, 1, 1, 1, 1, 1, 1, 1, 1, 1, 1, 1, 1, 1, 1, 1, 1, 1, 1, 1, 1, 1, 1, 1, 1, 1, 1, 1, 1, 1, 1, 1, 1, 1, 1, 1, 1, 1, 1, 1, 1, 1, 1, 1, 1, 1, 1, 1, 1, 1, 1, 1, 1, 1, 1, 1, 1, 1, 1, 1, 1, 1, 1, 1, 1, 1, 1, 1, 1, 1, 1, 1, 1, 1, 1, 1, 1, 1, 1, 1, 1, 1, 1, 1, 1, 1, 1, 1, 1, 1, 1, 1, 1, 1, 1, 1, 1, 1, 1, 1, 1, 1, 1, 1, 1, 1, 1, 1, 1, 1, 1, 1, 1, 1, 1, 1, 1, 1, 1, 1, 1, 1, 1, 1, 1, 1, 1, 1, 1, 1, 1, 1, 1, 1, 1, 1, 1, 1, 1, 1, 1, 1, 1, 1, 1] rfl (by decide +kernel)) (goodIn_sub (fun _ h => List.mem_cons_of_mem _ (List.mem_append_left _ (List.mem_append_left _ (List.mem_append_left _ (List.mem_append_left _ (List.mem_append_right _ h)))))) (by decide +kernel))) (goodIn_sub (fun _ h => List.mem_cons_of_mem _ (List.mem_append_left _ (List.mem_append_left _ (List.mem_append_left _ (List.mem_append_right _ h))))) (by decide +kernel))) (goodIn_sub (fun _ h => List.mem_cons_of_mem _ (List.mem_append_left _ (List.mem_append_left _ (List.mem_append_right _ h)))) (by decide +kernel))) (goodIn_sub (fun _ h => List.mem_cons_of_mem _ (List.mem_append_left _ (List.mem_append_right _ h))) (by decide +kernel))) (goodIn_sub (fun _ h => List.mem_cons_of_mem _ (List.mem_append_right _ h)) (by decide +kernel))
set_option maxRecDepth 20000 in
theorem gL_ask2_L_deed : GoodIn wsL_ask2 (va_wsS RL 112 yL_deed wsL_deed) := goodIn_app (goodIn_of _ (by decide +kernel)) ggL_ask2_L_deed
