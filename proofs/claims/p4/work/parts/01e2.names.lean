set_option maxRecDepth 20000 in
theorem ggX4_shift_X4_fails : GoodIn wsX4_shift wsX4_fails := goodIn_r _ [15, 1, 16, 17, 18, 19, 20, 21, 22, 23, 24, 25, 26, 27, 28, 29, 30, 31, 32, 33, 34, 35, 36, 37] (by decide +kernel) (by decide +kernel)
set_option maxRecDepth 20000 in
theorem gX4_shift_X4_fails : GoodIn wsX4_shift (wsV RX4 84 RX4 yX4_fails wsX4_fails) := goodIn_app (goodIn_of _ (by decide +kernel)) ggX4_shift_X4_fails
set_option maxRecDepth 20000 in
theorem ggX4_sleeps_X4_noBoard : GoodIn wsX4_sleeps wsX4_noBoard := goodIn_r _ [7, 8, 9, 10, 6, 11, 16, 17, 18, 19, 20, 21, 22, 23, 24, 25, 26, 27, 28, 29, 30, 31, 32, 33, 34, 35, 36, 37] (by decide +kernel) (by decide +kernel)
set_option maxRecDepth 20000 in
theorem gX4_sleeps_X4_noBoard : GoodIn wsX4_sleeps (wsV RX4 88 RX4 yX4_noBoard wsX4_noBoard) := goodIn_app (goodIn_of _ (by decide +kernel)) ggX4_sleeps_X4_noBoard
set_option maxRecDepth 20000 in
theorem ggX4_sleeps_X4_fails : GoodIn wsX4_sleeps wsX4_fails := goodIn_r _ [15, 1, 16, 17, 18, 19, 20, 21, 22, 23, 24, 25, 26, 27, 28, 29, 30, 31, 32, 33, 34, 35, 36, 37] (by decide +kernel) (by decide +kernel)
set_option maxRecDepth 20000 in
theorem gX4_sleeps_X4_fails : GoodIn wsX4_sleeps (wsV RX4 84 RX4 yX4_fails wsX4_fails) := goodIn_app (goodIn_of _ (by decide +kernel)) ggX4_sleeps_X4_fails
set_option maxRecDepth 20000 in
theorem ggX4_post_X4_in : GoodIn wsX4_post wsX4_in := goodIn_r _ [6] (by decide +kernel) (by decide +kernel)
set_option maxRecDepth 20000 in
theorem gX4_post_X4_in : GoodIn wsX4_post (va_wsS RX4 70 yX4_in wsX4_in) := goodIn_app (goodIn_of _ (by decide +kernel)) ggX4_post_X4_in
set_option maxRecDepth 20000 in
theorem ggX4_post_X4_fails : GoodIn wsX4_post wsX4_fails := goodIn_r _ [10, 1, 19, 20, 21, 22, 23, 24, 25, 26, 27, 28, 29, 30, 31, 32, 33, 34, 35, 36, 37, 38, 39, 40] (by decide +kernel) (by decide +kernel)
set_option maxRecDepth 20000 in
theorem gX4_post_X4_fails : GoodIn wsX4_post (wsV RX4 84 RX4 yX4_fails wsX4_fails) := goodIn_app (goodIn_of _ (by decide +kernel)) ggX4_post_X4_fails
set_option maxRecDepth 20000 in
theorem ggX4_post_X4_add : GoodIn wsX4_post wsX4_add := goodIn_ca (goodIn_r _ [14, 15, 2, 16, 17, 18, 19, 20, 21, 22, 23, 24, 25, 26, 27, 28, 29, 30, 31, 32, 33, 34, 35, 36, 37, 38, 39, 40] (by decide +kernel) (by decide +kernel)) (goodIn_sub (fun _ h => List.mem_cons_of_mem _ (List.mem_append_right _ h)) (by decide +kernel))
set_option maxRecDepth 20000 in
theorem gX4_post_X4_add : GoodIn wsX4_post (wsV RX4 94 RX4 yX4_add wsX4_add) := goodIn_app (goodIn_of _ (by decide +kernel)) ggX4_post_X4_add
set_option maxRecDepth 20000 in
theorem ggX4_queue_X4_noNotice : GoodIn wsX4_queue wsX4_noNotice := goodIn_r _ [9, 10, 11, 12, 8, 13, 21, 22, 23, 24, 25, 26, 27, 28, 29, 30, 31, 32, 33, 34, 35, 36, 37, 38, 39, 40, 41, 42] (by decide +kernel) (by decide +kernel)
set_option maxRecDepth 20000 in
theorem gX4_queue_X4_noNotice : GoodIn wsX4_queue (wsV RX4 98 RX4 yX4_noNotice wsX4_noNotice) := goodIn_app (goodIn_of _ (by decide +kernel)) ggX4_queue_X4_noNotice
set_option maxRecDepth 20000 in
theorem ggX4_queue_X4_fails : GoodIn wsX4_queue wsX4_fails := goodIn_r _ [17, 1, 21, 22, 23, 24, 25, 26, 27, 28, 29, 30, 31, 32, 33, 34, 35, 36, 37, 38, 39, 40, 41, 42] (by decide +kernel) (by decide +kernel)
set_option maxRecDepth 20000 in
theorem gX4_queue_X4_fails : GoodIn wsX4_queue (wsV RX4 84 RX4 yX4_fails wsX4_fails) := goodIn_app (goodIn_of _ (by decide +kernel)) ggX4_queue_X4_fails
set_option maxRecDepth 20000 in
theorem ggX4_queue_X4_noDistrict : GoodIn wsX4_queue wsX4_noDistrict := goodIn_r _ [20, 11, 12, 8, 13] (by decide +kernel) (by decide +kernel)
set_option maxRecDepth 20000 in
theorem gX4_queue_X4_noDistrict : GoodIn wsX4_queue (va_wsS RX4 80 yX4_noDistrict wsX4_noDistrict) := goodIn_app (goodIn_of _ (by decide +kernel)) ggX4_queue_X4_noDistrict
set_option maxRecDepth 20000 in
theorem ggX4_takeBack_X4_noNotice : GoodIn wsX4_takeBack wsX4_noNotice := goodIn_r _ [12, 13, 14, 15, 11, 16, 21, 22, 23, 24, 25, 26, 27, 28, 29, 30, 31, 32, 33, 34, 35, 36, 37, 38, 39, 40, 41, 42] (by decide +kernel) (by decide +kernel)
set_option maxRecDepth 20000 in
theorem gX4_takeBack_X4_noNotice : GoodIn wsX4_takeBack (wsV RX4 98 RX4 yX4_noNotice wsX4_noNotice) := goodIn_app (goodIn_of _ (by decide +kernel)) ggX4_takeBack_X4_noNotice
set_option maxRecDepth 20000 in
theorem ggX4_takeBack_X4_fails : GoodIn wsX4_takeBack wsX4_fails := goodIn_r _ [20, 1, 21, 22, 23, 24, 25, 26, 27, 28, 29, 30, 31, 32, 33, 34, 35, 36, 37, 38, 39, 40, 41, 42] (by decide +kernel) (by decide +kernel)
set_option maxRecDepth 20000 in
theorem gX4_takeBack_X4_fails : GoodIn wsX4_takeBack (wsV RX4 84 RX4 yX4_fails wsX4_fails) := goodIn_app (goodIn_of _ (by decide +kernel)) ggX4_takeBack_X4_fails
set_option maxRecDepth 20000 in
theorem ggX4_mend_X4_noNotice : GoodIn wsX4_mend wsX4_noNotice := goodIn_r _ [14, 6, 15, 16, 13, 17, 39, 40, 41, 42, 43, 44, 45, 46, 47, 48, 49, 50, 51, 52, 53, 54, 55, 56, 57, 58, 59, 60] (by decide +kernel) (by decide +kernel)
set_option maxRecDepth 20000 in
theorem gX4_mend_X4_noNotice : GoodIn wsX4_mend (wsV RX4 98 RX4 yX4_noNotice wsX4_noNotice) := goodIn_app (goodIn_of _ (by decide +kernel)) ggX4_mend_X4_noNotice
set_option maxRecDepth 20000 in
theorem ggX4_mend_X4_fails : GoodIn wsX4_mend wsX4_fails := goodIn_r _ [21, 1, 39, 40, 41, 42, 43, 44, 45, 46, 47, 48, 49, 50, 51, 52, 53, 54, 55, 56, 57, 58, 59, 60] (by decide +kernel) (by decide +kernel)
set_option maxRecDepth 20000 in
theorem gX4_mend_X4_fails : GoodIn wsX4_mend (wsV RX4 84 RX4 yX4_fails wsX4_fails) := goodIn_app (goodIn_of _ (by decide +kernel)) ggX4_mend_X4_fails
set_option maxRecDepth 20000 in
theorem ggX4_mend_X4_least : GoodIn wsX4_mend wsX4_least := goodIn_r _ [24] (by decide +kernel) (by decide +kernel)
set_option maxRecDepth 20000 in
theorem gX4_mend_X4_least : GoodIn wsX4_mend (va_wsS RX4 104 yX4_least wsX4_least) := goodIn_app (goodIn_of _ (by decide +kernel)) ggX4_mend_X4_least
set_option maxRecDepth 20000 in
theorem ggX4_mend_X4_most : GoodIn wsX4_mend wsX4_most := goodIn_r _ [27] (by decide +kernel) (by decide +kernel)
set_option maxRecDepth 20000 in
theorem gX4_mend_X4_most : GoodIn wsX4_mend (va_wsS RX4 108 yX4_most wsX4_most) := goodIn_app (goodIn_of _ (by decide +kernel)) ggX4_mend_X4_most
set_option maxRecDepth 20000 in
theorem ggX4_mend_X4_add : GoodIn wsX4_mend wsX4_add := goodIn_ca (goodIn_r _ [31, 7, 6, 2, 8, 5, 39, 40, 41, 42, 43, 44, 45, 46, 47, 48, 49, 50, 51, 52, 53, 54, 55, 56, 57, 58, 59, 60] (by decide +kernel) (by decide +kernel)) (goodIn_sub (fun _ h => List.mem_cons_of_mem _ (List.mem_append_right _ h)) (by decide +kernel))
set_option maxRecDepth 20000 in
theorem gX4_mend_X4_add : GoodIn wsX4_mend (wsV RX4 94 RX4 yX4_add wsX4_add) := goodIn_app (goodIn_of _ (by decide +kernel)) ggX4_mend_X4_add
set_option maxRecDepth 20000 in
theorem ggX4_mend_X4_readersOf : GoodIn wsX4_mend wsX4_readersOf := goodIn_ca (goodIn_r _ [35, 36, 37, 38, 39, 40, 41, 42, 43, 44, 45, 46, 47, 48, 49, 50, 51, 52, 53, 54, 55, 56, 57, 58, 59, 60] (by decide +kernel) (by decide +kernel)) (goodIn_sub (fun _ h => List.mem_cons_of_mem _ (List.mem_append_right _ h)) (by decide +kernel))
set_option maxRecDepth 20000 in
theorem gX4_mend_X4_readersOf : GoodIn wsX4_mend (wsV RX4 111 RX4 yX4_readersOf wsX4_readersOf) := goodIn_app (goodIn_of _ (by decide +kernel)) ggX4_mend_X4_readersOf
set_option maxRecDepth 20000 in
theorem ggX4_deny_X4_noDistrict : GoodIn wsX4_deny wsX4_noDistrict := goodIn_r _ [8, 9, 10, 7, 11] (by decide +kernel) (by decide +kernel)
set_option maxRecDepth 20000 in
theorem gX4_deny_X4_noDistrict : GoodIn wsX4_deny (va_wsS RX4 80 yX4_noDistrict wsX4_noDistrict) := goodIn_app (goodIn_of _ (by decide +kernel)) ggX4_deny_X4_noDistrict
set_option maxRecDepth 20000 in
theorem ggX4_deny_X4_in : GoodIn wsX4_deny wsX4_in := goodIn_r _ [11] (by decide +kernel) (by decide +kernel)
set_option maxRecDepth 20000 in
theorem gX4_deny_X4_in : GoodIn wsX4_deny (va_wsS RX4 70 yX4_in wsX4_in) := goodIn_app (goodIn_of _ (by decide +kernel)) ggX4_deny_X4_in
set_option maxRecDepth 20000 in
theorem ggX4_deny_X4_fails : GoodIn wsX4_deny wsX4_fails := goodIn_r _ [15, 1, 24, 25, 26, 27, 28, 29, 30, 31, 32, 33, 34, 35, 36, 37, 38, 39, 40, 41, 42, 43, 44, 45] (by decide +kernel) (by decide +kernel)
set_option maxRecDepth 20000 in
theorem gX4_deny_X4_fails : GoodIn wsX4_deny (wsV RX4 84 RX4 yX4_fails wsX4_fails) := goodIn_app (goodIn_of _ (by decide +kernel)) ggX4_deny_X4_fails
set_option maxRecDepth 20000 in
theorem ggX4_deny_X4_add : GoodIn wsX4_deny wsX4_add := goodIn_ca (goodIn_r _ [19, 20, 3, 21, 22, 23, 24, 25, 26, 27, 28, 29, 30, 31, 32, 33, 34, 35, 36, 37, 38, 39, 40, 41, 42, 43, 44, 45] (by decide +kernel) (by decide +kernel)) (goodIn_sub (fun _ h => List.mem_cons_of_mem _ (List.mem_append_right _ h)) (by decide +kernel))
set_option maxRecDepth 20000 in
theorem gX4_deny_X4_add : GoodIn wsX4_deny (wsV RX4 94 RX4 yX4_add wsX4_add) := goodIn_app (goodIn_of _ (by decide +kernel)) ggX4_deny_X4_add
set_option maxRecDepth 20000 in
theorem ggX4_inQueue_X4_isIn : GoodIn wsX4_inQueue wsX4_isIn := goodIn_ca (goodIn_r _ [7, 8, 9, 10, 11, 12, 13, 14, 15, 16, 17, 18, 19, 20, 21, 22, 23, 24, 25, 26, 27, 28, 29, 30, 31, 32] (by decide +kernel) (by decide +kernel)) (goodIn_sub (fun _ h => List.mem_cons_of_mem _ (List.mem_append_right _ h)) (by decide +kernel))
set_option maxRecDepth 20000 in
theorem gX4_inQueue_X4_isIn : GoodIn wsX4_inQueue (wsV RX4 114 RX4 yX4_isIn wsX4_isIn) := goodIn_app (goodIn_of _ (by decide +kernel)) ggX4_inQueue_X4_isIn
set_option maxRecDepth 20000 in
theorem ggX4_manyQueued_X4_isIn : GoodIn wsX4_manyQueued wsX4_isIn := goodIn_ca (goodIn_r _ [6, 7, 8, 9, 10, 11, 12, 13, 14, 15, 16, 17, 18, 19, 20, 21, 22, 23, 24, 25, 26, 27, 28, 29, 30, 31] (by decide +kernel) (by decide +kernel)) (goodIn_sub (fun _ h => List.mem_cons_of_mem _ (List.mem_append_right _ h)) (by decide +kernel))
set_option maxRecDepth 20000 in
theorem gX4_manyQueued_X4_isIn : GoodIn wsX4_manyQueued (wsV RX4 114 RX4 yX4_isIn wsX4_isIn) := goodIn_app (goodIn_of _ (by decide +kernel)) ggX4_manyQueued_X4_isIn
set_option maxRecDepth 20000 in
theorem ggX4_queued_X4_noDistrict : GoodIn wsX4_queued wsX4_noDistrict := goodIn_r _ [5, 6, 7, 4, 8] (by decide +kernel) (by decide +kernel)
set_option maxRecDepth 20000 in
theorem gX4_queued_X4_noDistrict : GoodIn wsX4_queued (va_wsS RX4 80 yX4_noDistrict wsX4_noDistrict) := goodIn_app (goodIn_of _ (by decide +kernel)) ggX4_queued_X4_noDistrict
set_option maxRecDepth 20000 in
theorem ggX4_queued_X4_fails : GoodIn wsX4_queued wsX4_fails := goodIn_r _ [12, 1, 25, 26, 27, 28, 29, 30, 31, 32, 33, 34, 35, 36, 37, 38, 39, 40, 41, 42, 43, 44, 45, 46] (by decide +kernel) (by decide +kernel)
set_option maxRecDepth 20000 in
theorem gX4_queued_X4_fails : GoodIn wsX4_queued (wsV RX4 84 RX4 yX4_fails wsX4_fails) := goodIn_app (goodIn_of _ (by decide +kernel)) ggX4_queued_X4_fails
set_option maxRecDepth 20000 in
theorem ggX4_queued_X4_manyQueued : GoodIn wsX4_queued wsX4_manyQueued := goodIn_ca (goodIn_r _ [16, 17, 18, 19, 20, 4, 21, 22, 23, 24, 25, 26, 27, 28, 29, 30, 31, 32, 33, 34, 35, 36, 37, 38, 39, 40, 41, 42, 43, 44, 45, 46] (by decide +kernel) (by decide +kernel)) (goodIn_sub (fun _ h => List.mem_cons_of_mem _ (List.mem_append_right _ h)) (by decide +kernel))
set_option maxRecDepth 20000 in
theorem gX4_queued_X4_manyQueued : GoodIn wsX4_queued (wsV RX4 118 RX4 yX4_manyQueued wsX4_manyQueued) := goodIn_app (goodIn_of _ (by decide +kernel)) ggX4_queued_X4_manyQueued
set_option maxRecDepth 20000 in
theorem ggX4_queuedAt_X4_noDistrict : GoodIn wsX4_queuedAt wsX4_noDistrict := goodIn_r _ [5, 6, 7, 4, 8] (by decide +kernel) (by decide +kernel)
set_option maxRecDepth 20000 in
theorem gX4_queuedAt_X4_noDistrict : GoodIn wsX4_queuedAt (va_wsS RX4 80 yX4_noDistrict wsX4_noDistrict) := goodIn_app (goodIn_of _ (by decide +kernel)) ggX4_queuedAt_X4_noDistrict
set_option maxRecDepth 20000 in
theorem ggX4_queuedAt_X4_fails : GoodIn wsX4_queuedAt wsX4_fails := goodIn_r _ [12, 1, 30, 31, 32, 33, 34, 35, 36, 37, 38, 39, 40, 41, 42, 43, 44, 45, 46, 47, 48, 49, 50, 51] (by decide +kernel) (by decide +kernel)
set_option maxRecDepth 20000 in
theorem gX4_queuedAt_X4_fails : GoodIn wsX4_queuedAt (wsV RX4 84 RX4 yX4_fails wsX4_fails) := goodIn_app (goodIn_of _ (by decide +kernel)) ggX4_queuedAt_X4_fails
set_option maxRecDepth 20000 in
theorem ggX4_queuedAt_X4_manyQueued : GoodIn wsX4_queuedAt wsX4_manyQueued := goodIn_ca (goodIn_r _ [16, 17, 18, 19, 20, 4, 21, 22, 23, 24, 30, 31, 32, 33, 34, 35, 36, 37, 38, 39, 40, 41, 42, 43, 44, 45, 46, 47, 48, 49, 50, 51] (by decide +kernel) (by decide +kernel)) (goodIn_sub (fun _ h => List.mem_cons_of_mem _ (List.mem_append_right _ h)) (by decide +kernel))
set_option maxRecDepth 20000 in
theorem gX4_queuedAt_X4_manyQueued : GoodIn wsX4_queuedAt (wsV RX4 118 RX4 yX4_manyQueued wsX4_manyQueued) := goodIn_app (goodIn_of _ (by decide +kernel)) ggX4_queuedAt_X4_manyQueued
set_option maxRecDepth 20000 in
theorem ggX4_queuedAt_X4_in : GoodIn wsX4_queuedAt wsX4_in := goodIn_r _ [8] (by decide +kernel) (by decide +kernel)
set_option maxRecDepth 20000 in
theorem gX4_queuedAt_X4_in : GoodIn wsX4_queuedAt (va_wsS RX4 70 yX4_in wsX4_in) := goodIn_app (goodIn_of _ (by decide +kernel)) ggX4_queuedAt_X4_in
set_option maxRecDepth 20000 in
theorem ggX4_queuedAt_X4_inQueue : GoodIn wsX4_queuedAt wsX4_inQueue := goodIn_ca (goodIn_r _ [28, 17, 29, 18, 19, 20, 4, 21, 22, 23, 24, 30, 31, 32, 33, 34, 35, 36, 37, 38, 39, 40, 41, 42, 43, 44, 45, 46, 47, 48, 49, 50, 51] (by decide +kernel) (by decide +kernel)) (goodIn_sub (fun _ h => List.mem_cons_of_mem _ (List.mem_append_right _ h)) (by decide +kernel))
set_option maxRecDepth 20000 in
theorem gX4_queuedAt_X4_inQueue : GoodIn wsX4_queuedAt (wsV RX4 122 RX4 yX4_inQueue wsX4_inQueue) := goodIn_app (goodIn_of _ (by decide +kernel)) ggX4_queuedAt_X4_inQueue
set_option maxRecDepth 20000 in
theorem ggX4_isDue_X4_noNotice : GoodIn wsX4_isDue wsX4_noNotice := goodIn_r _ [6, 7, 8, 9, 5, 10, 22, 23, 24, 25, 26, 27, 28, 29, 30, 31, 32, 33, 34, 35, 36, 37, 38, 39, 40, 41, 42, 43] (by decide +kernel) (by decide +kernel)
set_option maxRecDepth 20000 in
theorem gX4_isDue_X4_noNotice : GoodIn wsX4_isDue (wsV RX4 98 RX4 yX4_noNotice wsX4_noNotice) := goodIn_app (goodIn_of _ (by decide +kernel)) ggX4_isDue_X4_noNotice
set_option maxRecDepth 20000 in
theorem ggX4_isDue_X4_fails : GoodIn wsX4_isDue wsX4_fails := goodIn_r _ [14, 1, 22, 23, 24, 25, 26, 27, 28, 29, 30, 31, 32, 33, 34, 35, 36, 37, 38, 39, 40, 41, 42, 43] (by decide +kernel) (by decide +kernel)
set_option maxRecDepth 20000 in
theorem gX4_isDue_X4_fails : GoodIn wsX4_isDue (wsV RX4 84 RX4 yX4_fails wsX4_fails) := goodIn_app (goodIn_of _ (by decide +kernel)) ggX4_isDue_X4_fails
set_option maxRecDepth 20000 in
theorem ggX4_isDue_X4_dueNow : GoodIn wsX4_isDue wsX4_dueNow := goodIn_ca (goodIn_r _ [18, 19, 20, 21, 22, 23, 24, 25, 26, 27, 28, 29, 30, 31, 32, 33, 34, 35, 36, 37, 38, 39, 40, 41, 42, 43] (by decide +kernel) (by decide +kernel)) (goodIn_sub (fun _ h => List.mem_cons_of_mem _ (List.mem_append_right _ h)) (by decide +kernel))
set_option maxRecDepth 20000 in
theorem gX4_isDue_X4_dueNow : GoodIn wsX4_isDue (wsV RX4 125 RX4 yX4_dueNow wsX4_dueNow) := goodIn_app (goodIn_of _ (by decide +kernel)) ggX4_isDue_X4_dueNow
set_option maxRecDepth 20000 in
theorem ggX4_pass_X4_noBoard : GoodIn wsX4_pass wsX4_noBoard := goodIn_r _ [10, 11, 12, 13, 9, 14, 19, 20, 21, 22, 23, 24, 25, 26, 27, 28, 29, 30, 31, 32, 33, 34, 35, 36, 37, 38, 39, 40] (by decide +kernel) (by decide +kernel)
set_option maxRecDepth 20000 in
theorem gX4_pass_X4_noBoard : GoodIn wsX4_pass (wsV RX4 88 RX4 yX4_noBoard wsX4_noBoard) := goodIn_app (goodIn_of _ (by decide +kernel)) ggX4_pass_X4_noBoard
set_option maxRecDepth 20000 in
theorem ggX4_pass_X4_fails : GoodIn wsX4_pass wsX4_fails := goodIn_r _ [18, 1, 19, 20, 21, 22, 23, 24, 25, 26, 27, 28, 29, 30, 31, 32, 33, 34, 35, 36, 37, 38, 39, 40] (by decide +kernel) (by decide +kernel)
set_option maxRecDepth 20000 in
theorem gX4_pass_X4_fails : GoodIn wsX4_pass (wsV RX4 84 RX4 yX4_fails wsX4_fails) := goodIn_app (goodIn_of _ (by decide +kernel)) ggX4_pass_X4_fails
set_option maxRecDepth 20000 in
theorem ggX4_pass_X4_in : GoodIn wsX4_pass wsX4_in := goodIn_r _ [14] (by decide +kernel) (by decide +kernel)
set_option maxRecDepth 20000 in
theorem gX4_pass_X4_in : GoodIn wsX4_pass (va_wsS RX4 70 yX4_in wsX4_in) := goodIn_app (goodIn_of _ (by decide +kernel)) ggX4_pass_X4_in
set_option maxRecDepth 20000 in
theorem ggX4_readers_X4_noNotice : GoodIn wsX4_readers wsX4_noNotice := goodIn_r _ [6, 7, 8, 9, 5, 10, 25, 26, 27, 28, 29, 30, 31, 32, 33, 34, 35, 36, 37, 38, 39, 40, 41, 42, 43, 44, 45, 46] (by decide +kernel) (by decide +kernel)
set_option maxRecDepth 20000 in
theorem gX4_readers_X4_noNotice : GoodIn wsX4_readers (wsV RX4 98 RX4 yX4_noNotice wsX4_noNotice) := goodIn_app (goodIn_of _ (by decide +kernel)) ggX4_readers_X4_noNotice
set_option maxRecDepth 20000 in
theorem ggX4_readers_X4_fails : GoodIn wsX4_readers wsX4_fails := goodIn_r _ [14, 1, 25, 26, 27, 28, 29, 30, 31, 32, 33, 34, 35, 36, 37, 38, 39, 40, 41, 42, 43, 44, 45, 46] (by decide +kernel) (by decide +kernel)
set_option maxRecDepth 20000 in
theorem gX4_readers_X4_fails : GoodIn wsX4_readers (wsV RX4 84 RX4 yX4_fails wsX4_fails) := goodIn_app (goodIn_of _ (by decide +kernel)) ggX4_readers_X4_fails
set_option maxRecDepth 20000 in
theorem ggX4_readers_X4_noDistrict : GoodIn wsX4_readers wsX4_noDistrict := goodIn_r _ [17, 8, 9, 5, 10] (by decide +kernel) (by decide +kernel)
set_option maxRecDepth 20000 in
theorem gX4_readers_X4_noDistrict : GoodIn wsX4_readers (va_wsS RX4 80 yX4_noDistrict wsX4_noDistrict) := goodIn_app (goodIn_of _ (by decide +kernel)) ggX4_readers_X4_noDistrict
set_option maxRecDepth 20000 in
theorem ggX4_readers_X4_readersOf : GoodIn wsX4_readers wsX4_readersOf := goodIn_ca (goodIn_r _ [21, 22, 23, 24, 25, 26, 27, 28, 29, 30, 31, 32, 33, 34, 35, 36, 37, 38, 39, 40, 41, 42, 43, 44, 45, 46] (by decide +kernel) (by decide +kernel)) (goodIn_sub (fun _ h => List.mem_cons_of_mem _ (List.mem_append_right _ h)) (by decide +kernel))
set_option maxRecDepth 20000 in
theorem gX4_readers_X4_readersOf : GoodIn wsX4_readers (wsV RX4 111 RX4 yX4_readersOf wsX4_readersOf) := goodIn_app (goodIn_of _ (by decide +kernel)) ggX4_readers_X4_readersOf
set_option maxRecDepth 20000 in
theorem ggX4_readIn_X4_noNotice : GoodIn wsX4_readIn wsX4_noNotice := goodIn_r _ [7, 8, 9, 10, 6, 11, 16, 17, 18, 19, 20, 21, 22, 23, 24, 25, 26, 27, 28, 29, 30, 31, 32, 33, 34, 35, 36, 37] (by decide +kernel) (by decide +kernel)
set_option maxRecDepth 20000 in
theorem gX4_readIn_X4_noNotice : GoodIn wsX4_readIn (wsV RX4 98 RX4 yX4_noNotice wsX4_noNotice) := goodIn_app (goodIn_of _ (by decide +kernel)) ggX4_readIn_X4_noNotice
set_option maxRecDepth 20000 in
theorem ggX4_readIn_X4_fails : GoodIn wsX4_readIn wsX4_fails := goodIn_r _ [15, 1, 16, 17, 18, 19, 20, 21, 22, 23, 24, 25, 26, 27, 28, 29, 30, 31, 32, 33, 34, 35, 36, 37] (by decide +kernel) (by decide +kernel)
set_option maxRecDepth 20000 in
theorem gX4_readIn_X4_fails : GoodIn wsX4_readIn (wsV RX4 84 RX4 yX4_fails wsX4_fails) := goodIn_app (goodIn_of _ (by decide +kernel)) ggX4_readIn_X4_fails
set_option maxRecDepth 20000 in
theorem ggX4_readIn_X4_in : GoodIn wsX4_readIn wsX4_in := goodIn_r _ [11] (by decide +kernel) (by decide +kernel)
set_option maxRecDepth 20000 in
theorem gX4_readIn_X4_in : GoodIn wsX4_readIn (va_wsS RX4 70 yX4_in wsX4_in) := goodIn_app (goodIn_of _ (by decide +kernel)) ggX4_readIn_X4_in
set_option maxRecDepth 20000 in
theorem ggX4_canHaveMade_X4_has : GoodIn wsX4_canHaveMade wsX4_has := goodIn_r _ [5] (by decide +kernel) (by decide +kernel)
set_option maxRecDepth 20000 in
theorem gX4_canHaveMade_X4_has : GoodIn wsX4_canHaveMade (va_wsS RX4 77 yX4_has wsX4_has) := goodIn_app (goodIn_of _ (by decide +kernel)) ggX4_canHaveMade_X4_has
set_option maxRecDepth 20000 in
theorem ggX4_canHaveMade_X4_readersOf : GoodIn wsX4_canHaveMade wsX4_readersOf := goodIn_ca (goodIn_r _ [9, 10, 11, 12, 13, 14, 15, 16, 17, 18, 19, 20, 21, 22, 23, 24, 25, 26, 27, 28, 29, 30, 31, 32, 33, 34] (by decide +kernel) (by decide +kernel)) (goodIn_sub (fun _ h => List.mem_cons_of_mem _ (List.mem_append_right _ h)) (by decide +kernel))
set_option maxRecDepth 20000 in
theorem gX4_canHaveMade_X4_readersOf : GoodIn wsX4_canHaveMade (wsV RX4 111 RX4 yX4_readersOf wsX4_readersOf) := goodIn_app (goodIn_of _ (by decide +kernel)) ggX4_canHaveMade_X4_readersOf
set_option maxRecDepth 20000 in
theorem ggX4_manySuspects_X4_canHaveMade : GoodIn wsX4_manySuspects wsX4_canHaveMade := goodIn_ca (goodIn_r _ [6, 7, 8, 9, 5, 10, 11, 12, 13, 14, 15, 16, 17, 18, 19, 20, 21, 22, 23, 24, 25, 26, 27, 28, 29, 30, 31, 32, 33, 34, 35, 36, 37, 38, 39] (by decide +kernel) (by decide +kernel)) (goodIn_sub (fun _ h => List.mem_cons_of_mem _ (List.mem_append_right _ h)) (by decide +kernel))
set_option maxRecDepth 20000 in
theorem gX4_manySuspects_X4_canHaveMade : GoodIn wsX4_manySuspects (wsV RX4 128 RX4 yX4_canHaveMade wsX4_canHaveMade) := goodIn_app (goodIn_of _ (by decide +kernel)) ggX4_manySuspects_X4_canHaveMade
set_option maxRecDepth 20000 in
theorem ggX4_suspects_X4_noDistrict : GoodIn wsX4_suspects wsX4_noDistrict := goodIn_r _ [5, 6, 7, 4, 8] (by decide +kernel) (by decide +kernel)
set_option maxRecDepth 20000 in
theorem gX4_suspects_X4_noDistrict : GoodIn wsX4_suspects (va_wsS RX4 80 yX4_noDistrict wsX4_noDistrict) := goodIn_app (goodIn_of _ (by decide +kernel)) ggX4_suspects_X4_noDistrict
set_option maxRecDepth 20000 in
theorem ggX4_suspects_X4_fails : GoodIn wsX4_suspects wsX4_fails := goodIn_r _ [12, 1, 33, 34, 35, 36, 37, 38, 39, 40, 41, 42, 43, 44, 45, 46, 47, 48, 49, 50, 51, 52, 53, 54] (by decide +kernel) (by decide +kernel)
set_option maxRecDepth 20000 in
theorem gX4_suspects_X4_fails : GoodIn wsX4_suspects (wsV RX4 84 RX4 yX4_fails wsX4_fails) := goodIn_app (goodIn_of _ (by decide +kernel)) ggX4_suspects_X4_fails
set_option maxRecDepth 20000 in
theorem ggX4_suspects_X4_manySuspects : GoodIn wsX4_suspects wsX4_manySuspects := goodIn_ca (goodIn_r _ [16, 17, 18, 19, 20, 4, 21, 22, 23, 24, 25, 26, 27, 28, 29, 30, 31, 32, 33, 34, 35, 36, 37, 38, 39, 40, 41, 42, 43, 44, 45, 46, 47, 48, 49, 50, 51, 52, 53, 54] (by decide +kernel) (by decide +kernel)) (goodIn_sub (fun _ h => List.mem_cons_of_mem _ (List.mem_append_right _ h)) (by decide +kernel))
set_option maxRecDepth 20000 in
theorem gX4_suspects_X4_manySuspects : GoodIn wsX4_suspects (wsV RX4 131 RX4 yX4_manySuspects wsX4_manySuspects) := goodIn_app (goodIn_of _ (by decide +kernel)) ggX4_suspects_X4_manySuspects
set_option maxRecDepth 20000 in
theorem ggX4_suspectAt_X4_noDistrict : GoodIn wsX4_suspectAt wsX4_noDistrict := goodIn_r _ [6, 7, 8, 5, 9] (by decide +kernel) (by decide +kernel)
set_option maxRecDepth 20000 in
theorem gX4_suspectAt_X4_noDistrict : GoodIn wsX4_suspectAt (va_wsS RX4 80 yX4_noDistrict wsX4_noDistrict) := goodIn_app (goodIn_of _ (by decide +kernel)) ggX4_suspectAt_X4_noDistrict
set_option maxRecDepth 20000 in
theorem ggX4_suspectAt_X4_fails : GoodIn wsX4_suspectAt wsX4_fails := goodIn_r _ [13, 1, 33, 34, 35, 36, 37, 38, 39, 40, 41, 42, 43, 44, 45, 46, 47, 48, 49, 50, 51, 52, 53, 54] (by decide +kernel) (by decide +kernel)
set_option maxRecDepth 20000 in
theorem gX4_suspectAt_X4_fails : GoodIn wsX4_suspectAt (wsV RX4 84 RX4 yX4_fails wsX4_fails) := goodIn_app (goodIn_of _ (by decide +kernel)) ggX4_suspectAt_X4_fails
set_option maxRecDepth 20000 in
theorem ggX4_suspectAt_X4_manySuspects : GoodIn wsX4_suspectAt wsX4_manySuspects := goodIn_ca (goodIn_r _ [17, 2, 18, 19, 20, 5, 21, 22, 23, 24, 25, 26, 27, 28, 29, 30, 31, 32, 33, 34, 35, 36, 37, 38, 39, 40, 41, 42, 43, 44, 45, 46, 47, 48, 49, 50, 51, 52, 53, 54] (by decide +kernel) (by decide +kernel)) (goodIn_sub (fun _ h => List.mem_cons_of_mem _ (List.mem_append_right _ h)) (by decide +kernel))
set_option maxRecDepth 20000 in
theorem gX4_suspectAt_X4_manySuspects : GoodIn wsX4_suspectAt (wsV RX4 131 RX4 yX4_manySuspects wsX4_manySuspects) := goodIn_app (goodIn_of _ (by decide +kernel)) ggX4_suspectAt_X4_manySuspects
set_option maxRecDepth 20000 in
theorem ggX4_suspectAt_X4_in : GoodIn wsX4_suspectAt wsX4_in := goodIn_r _ [9] (by decide +kernel) (by decide +kernel)
set_option maxRecDepth 20000 in
theorem gX4_suspectAt_X4_in : GoodIn wsX4_suspectAt (va_wsS RX4 70 yX4_in wsX4_in) := goodIn_app (goodIn_of _ (by decide +kernel)) ggX4_suspectAt_X4_in
set_option maxRecDepth 20000 in
theorem ggX4_suspectAt_X4_readersOf : GoodIn wsX4_suspectAt wsX4_readersOf := goodIn_ca (goodIn_r _ [29, 30, 31, 32, 33, 34, 35, 36, 37, 38, 39, 40, 41, 42, 43, 44, 45, 46, 47, 48, 49, 50, 51, 52, 53, 54] (by decide +kernel) (by decide +kernel)) (goodIn_sub (fun _ h => List.mem_cons_of_mem _ (List.mem_append_right _ h)) (by decide +kernel))
set_option maxRecDepth 20000 in
theorem gX4_suspectAt_X4_readersOf : GoodIn wsX4_suspectAt (wsV RX4 111 RX4 yX4_readersOf wsX4_readersOf) := goodIn_app (goodIn_of _ (by decide +kernel)) ggX4_suspectAt_X4_readersOf
set_option maxRecDepth 20000 in
theorem ggX4_suspectAt_X4_canHaveMade : GoodIn wsX4_suspectAt wsX4_canHaveMade := goodIn_ca (goodIn_r _ [21, 22, 23, 24, 5, 25, 26, 27, 28, 29, 30, 31, 32, 33, 34, 35, 36, 37, 38, 39, 40, 41, 42, 43, 44, 45, 46, 47, 48, 49, 50, 51, 52, 53, 54] (by decide +kernel) (by decide +kernel)) (goodIn_sub (fun _ h => List.mem_cons_of_mem _ (List.mem_append_right _ h)) (by decide +kernel))
set_option maxRecDepth 20000 in
theorem gX4_suspectAt_X4_canHaveMade : GoodIn wsX4_suspectAt (wsV RX4 128 RX4 yX4_canHaveMade wsX4_canHaveMade) := goodIn_app (goodIn_of _ (by decide +kernel)) ggX4_suspectAt_X4_canHaveMade
set_option maxRecDepth 20000 in
theorem ggX4_wipe_X4_change : GoodIn wsX4_wipe wsX4_change := goodIn_ca (goodIn_r _ [9, 1, 10, 11, 12, 13, 14, 15, 16, 17, 18, 19, 20, 21, 22, 23, 24, 25, 26, 27, 28, 29, 30, 31, 32, 33] (by decide +kernel) (by decide +kernel)) (goodIn_sub (fun _ h => List.mem_cons_of_mem _ (List.mem_append_right _ h)) (by decide +kernel))
set_option maxRecDepth 20000 in
theorem gX4_wipe_X4_change : GoodIn wsX4_wipe (wsV RX4 138 RX4 yX4_change wsX4_change) := goodIn_app (goodIn_of _ (by decide +kernel)) ggX4_wipe_X4_change
set_option maxRecDepth 20000 in
theorem ggX4_differs_X4_has : GoodIn wsX4_differs wsX4_has := goodIn_r _ [5] (by decide +kernel) (by decide +kernel)
set_option maxRecDepth 20000 in
theorem gX4_differs_X4_has : GoodIn wsX4_differs (va_wsS RX4 77 yX4_has wsX4_has) := goodIn_app (goodIn_of _ (by decide +kernel)) ggX4_differs_X4_has
set_option maxRecDepth 20000 in
theorem ggX4_costs_X4_differs : GoodIn wsX4_costs wsX4_differs := goodIn_ca (goodIn_r _ [5, 6, 7, 8, 4, 9, 10, 11, 12, 13, 14, 15, 16, 17, 18, 19, 20, 21, 22, 23, 24, 25, 26, 27, 28, 29, 30, 31] (by decide +kernel) (by decide +kernel)) (goodIn_sub (fun _ h => List.mem_cons_of_mem _ (List.mem_append_right _ h)) (by decide +kernel))
set_option maxRecDepth 20000 in
theorem gX4_costs_X4_differs : GoodIn wsX4_costs (wsV RX4 142 RX4 yX4_differs wsX4_differs) := goodIn_app (goodIn_of _ (by decide +kernel)) ggX4_costs_X4_differs
set_option maxRecDepth 20000 in
theorem ggX4_worstBehind_X4_differs : GoodIn wsX4_worstBehind wsX4_differs := goodIn_ca (goodIn_r _ [6, 7, 8, 9, 5, 10, 14, 15, 16, 17, 18, 19, 20, 21, 22, 23, 24, 25, 26, 27, 28, 29, 30, 31, 32, 33, 34, 35] (by decide +kernel) (by decide +kernel)) (goodIn_sub (fun _ h => List.mem_cons_of_mem _ (List.mem_append_right _ h)) (by decide +kernel))
set_option maxRecDepth 20000 in
theorem gX4_worstBehind_X4_differs : GoodIn wsX4_worstBehind (wsV RX4 142 RX4 yX4_differs wsX4_differs) := goodIn_app (goodIn_of _ (by decide +kernel)) ggX4_worstBehind_X4_differs
set_option maxRecDepth 20000 in
theorem ggX4_worstBehind_X4_most : GoodIn wsX4_worstBehind wsX4_most := goodIn_r _ [13] (by decide +kernel) (by decide +kernel)
set_option maxRecDepth 20000 in
theorem gX4_worstBehind_X4_most : GoodIn wsX4_worstBehind (va_wsS RX4 108 yX4_most wsX4_most) := goodIn_app (goodIn_of _ (by decide +kernel)) ggX4_worstBehind_X4_most
set_option maxRecDepth 20000 in
theorem ggX4_can_X4_costs : GoodIn wsX4_can wsX4_costs := goodIn_ca (goodIn_r _ [7, 8, 9, 10, 6, 11, 12, 13, 14, 15, 19, 20, 21, 22, 23, 24, 25, 26, 27, 28, 29, 30, 31, 32, 33, 34, 35, 36, 37, 38, 39, 40] (by decide +kernel) (by decide +kernel)) (goodIn_sub (fun _ h => List.mem_cons_of_mem _ (List.mem_append_right _ h)) (by decide +kernel))
set_option maxRecDepth 20000 in
theorem gX4_can_X4_costs : GoodIn wsX4_can (wsV RX4 146 RX4 yX4_costs wsX4_costs) := goodIn_app (goodIn_of _ (by decide +kernel)) ggX4_can_X4_costs
set_option maxRecDepth 20000 in
theorem ggX4_can_X4_blacks : GoodIn wsX4_can wsX4_blacks := goodIn_r _ [18, 13, 14, 6, 15] (by decide +kernel) (by decide +kernel)
set_option maxRecDepth 20000 in
theorem gX4_can_X4_blacks : GoodIn wsX4_can (va_wsS RX4 150 yX4_blacks wsX4_blacks) := goodIn_app (goodIn_of _ (by decide +kernel)) ggX4_can_X4_blacks
set_option maxRecDepth 20000 in
theorem ggX4_can_X4_differs : GoodIn wsX4_can wsX4_differs := goodIn_ca (goodIn_r _ [11, 12, 13, 14, 6, 15, 19, 20, 21, 22, 23, 24, 25, 26, 27, 28, 29, 30, 31, 32, 33, 34, 35, 36, 37, 38, 39, 40] (by decide +kernel) (by decide +kernel)) (goodIn_sub (fun _ h => List.mem_cons_of_mem _ (List.mem_append_right _ h)) (by decide +kernel))
set_option maxRecDepth 20000 in
theorem gX4_can_X4_differs : GoodIn wsX4_can (wsV RX4 142 RX4 yX4_differs wsX4_differs) := goodIn_app (goodIn_of _ (by decide +kernel)) ggX4_can_X4_differs
set_option maxRecDepth 20000 in
theorem ggX4_can_X4_has : GoodIn wsX4_can wsX4_has := goodIn_r _ [15] (by decide +kernel) (by decide +kernel)
set_option maxRecDepth 20000 in
theorem gX4_can_X4_has : GoodIn wsX4_can (va_wsS RX4 77 yX4_has wsX4_has) := goodIn_app (goodIn_of _ (by decide +kernel)) ggX4_can_X4_has
set_option maxRecDepth 20000 in
theorem ggX4_shiftFor_X4_can : GoodIn wsX4_shiftFor wsX4_can := goodIn_ca (goodIn_r _ [5, 6, 7, 8, 9, 10, 4, 11, 12, 13, 14, 15, 16, 17, 18, 19, 20, 21, 22, 30, 31, 32, 33, 34, 35, 36, 37, 38, 39, 40, 41, 42, 43, 44, 45, 46, 47, 48, 49, 50, 51] (by decide +kernel) (by decide +kernel)) (goodIn_sub (fun _ h => List.mem_cons_of_mem _ (List.mem_append_right _ h)) (by decide +kernel))
set_option maxRecDepth 20000 in
theorem gX4_shiftFor_X4_can : GoodIn wsX4_shiftFor (wsV RX4 153 RX4 yX4_can wsX4_can) := goodIn_app (goodIn_of _ (by decide +kernel)) ggX4_shiftFor_X4_can
set_option maxRecDepth 20000 in
theorem ggX4_shiftFor_X4_worstBehind : GoodIn wsX4_shiftFor wsX4_worstBehind := goodIn_ca (goodIn_r _ [26, 7, 12, 13, 14, 4, 15, 16, 17, 18, 19, 27, 28, 29, 30, 31, 32, 33, 34, 35, 36, 37, 38, 39, 40, 41, 42, 43, 44, 45, 46, 47, 48, 49, 50, 51] (by decide +kernel) (by decide +kernel)) (goodIn_sub (fun _ h => List.mem_cons_of_mem _ (List.mem_append_right _ h)) (by decide +kernel))
set_option maxRecDepth 20000 in
theorem gX4_shiftFor_X4_worstBehind : GoodIn wsX4_shiftFor (wsV RX4 156 RX4 yX4_worstBehind wsX4_worstBehind) := goodIn_app (goodIn_of _ (by decide +kernel)) ggX4_shiftFor_X4_worstBehind
set_option maxRecDepth 20000 in
theorem ggX4_shiftFor_X4_costs : GoodIn wsX4_shiftFor wsX4_costs := goodIn_ca (goodIn_r _ [11, 12, 13, 14, 4, 15, 16, 17, 18, 19, 30, 31, 32, 33, 34, 35, 36, 37, 38, 39, 40, 41, 42, 43, 44, 45, 46, 47, 48, 49, 50, 51] (by decide +kernel) (by decide +kernel)) (goodIn_sub (fun _ h => List.mem_cons_of_mem _ (List.mem_append_right _ h)) (by decide +kernel))
set_option maxRecDepth 20000 in
theorem gX4_shiftFor_X4_costs : GoodIn wsX4_shiftFor (wsV RX4 146 RX4 yX4_costs wsX4_costs) := goodIn_app (goodIn_of _ (by decide +kernel)) ggX4_shiftFor_X4_costs
set_option maxRecDepth 20000 in
theorem ggX4_show_X4_differs : GoodIn wsX4_show wsX4_differs := goodIn_ca (goodIn_r _ [9, 10, 11, 12, 8, 13, 20, 21, 22, 23, 24, 25, 26, 27, 28, 29, 30, 31, 32, 33, 34, 35, 36, 37, 38, 39, 40, 41] (by decide +kernel) (by decide +kernel)) (goodIn_sub (fun _ h => List.mem_cons_of_mem _ (List.mem_append_right _ h)) (by decide +kernel))
set_option maxRecDepth 20000 in
theorem gX4_show_X4_differs : GoodIn wsX4_show (wsV RX4 142 RX4 yX4_differs wsX4_differs) := goodIn_app (goodIn_of _ (by decide +kernel)) ggX4_show_X4_differs
set_option maxRecDepth 20000 in
theorem ggX4_show_X4_change : GoodIn wsX4_show wsX4_change := goodIn_ca (goodIn_r _ [17, 10, 18, 19, 20, 21, 22, 23, 24, 25, 26, 27, 28, 29, 30, 31, 32, 33, 34, 35, 36, 37, 38, 39, 40, 41] (by decide +kernel) (by decide +kernel)) (goodIn_sub (fun _ h => List.mem_cons_of_mem _ (List.mem_append_right _ h)) (by decide +kernel))
set_option maxRecDepth 20000 in
theorem gX4_show_X4_change : GoodIn wsX4_show (wsV RX4 138 RX4 yX4_change wsX4_change) := goodIn_app (goodIn_of _ (by decide +kernel)) ggX4_show_X4_change
set_option maxRecDepth 20000 in
theorem ggX4_choose_X4_manyQueued : GoodIn wsX4_choose wsX4_manyQueued := goodIn_ca (goodIn_r _ [9, 10, 11, 12, 13, 8, 14, 15, 16, 17, 74, 75, 76, 77, 78, 79, 80, 81, 82, 83, 84, 85, 86, 87, 88, 89, 90, 91, 92, 93, 94, 95] (by decide +kernel) (by decide +kernel)) (goodIn_sub (fun _ h => List.mem_cons_of_mem _ (List.mem_append_right _ h)) (by decide +kernel))
set_option maxRecDepth 20000 in
theorem gX4_choose_X4_manyQueued : GoodIn wsX4_choose (wsV RX4 118 RX4 yX4_manyQueued wsX4_manyQueued) := goodIn_app (goodIn_of _ (by decide +kernel)) ggX4_choose_X4_manyQueued
set_option maxRecDepth 20000 in
theorem ggX4_choose_X4_inQueue : GoodIn wsX4_choose wsX4_inQueue := goodIn_ca (goodIn_r _ [21, 10, 22, 11, 12, 13, 8, 14, 15, 16, 17, 74, 75, 76, 77, 78, 79, 80, 81, 82, 83, 84, 85, 86, 87, 88, 89, 90, 91, 92, 93, 94, 95] (by decide +kernel) (by decide +kernel)) (goodIn_sub (fun _ h => List.mem_cons_of_mem _ (List.mem_append_right _ h)) (by decide +kernel))
set_option maxRecDepth 20000 in
theorem gX4_choose_X4_inQueue : GoodIn wsX4_choose (wsV RX4 122 RX4 yX4_inQueue wsX4_inQueue) := goodIn_app (goodIn_of _ (by decide +kernel)) ggX4_choose_X4_inQueue
set_option maxRecDepth 20000 in
theorem ggX4_choose_X4_dueNow : GoodIn wsX4_choose wsX4_dueNow := goodIn_ca (goodIn_r _ [26, 16, 27, 17, 74, 75, 76, 77, 78, 79, 80, 81, 82, 83, 84, 85, 86, 87, 88, 89, 90, 91, 92, 93, 94, 95] (by decide +kernel) (by decide +kernel)) (goodIn_sub (fun _ h => List.mem_cons_of_mem _ (List.mem_append_right _ h)) (by decide +kernel))
set_option maxRecDepth 20000 in
theorem gX4_choose_X4_dueNow : GoodIn wsX4_choose (wsV RX4 125 RX4 yX4_dueNow wsX4_dueNow) := goodIn_app (goodIn_of _ (by decide +kernel)) ggX4_choose_X4_dueNow
set_option maxRecDepth 20000 in
theorem ggX4_choose_X4_shiftFor : GoodIn wsX4_choose wsX4_shiftFor := goodIn_ca (goodIn_r _ [31, 32, 33, 34, 8, 35, 36, 37, 38, 39, 40, 41, 42, 43, 44, 45, 46, 47, 48, 49, 50, 51, 52, 53, 54, 55, 56, 57, 58, 59, 74, 75, 76, 77, 78, 79, 80, 81, 82, 83, 84, 85, 86, 87, 88, 89, 90, 91, 92, 93, 94, 95] (by decide +kernel) (by decide +kernel)) (goodIn_sub (fun _ h => List.mem_cons_of_mem _ (List.mem_append_right _ h)) (by decide +kernel))
set_option maxRecDepth 20000 in
theorem gX4_choose_X4_shiftFor : GoodIn wsX4_choose (wsV RX4 159 RX4 yX4_shiftFor wsX4_shiftFor) := goodIn_app (goodIn_of _ (by decide +kernel)) ggX4_choose_X4_shiftFor
set_option maxRecDepth 20000 in
theorem ggX4_choose_X4_show : GoodIn wsX4_choose wsX4_show := goodIn_ca (goodIn_r _ [63, 4, 36, 3, 64, 42, 43, 44, 8, 45, 46, 47, 48, 49, 65, 66, 67, 68, 37, 69, 74, 75, 76, 77, 78, 79, 80, 81, 82, 83, 84, 85, 86, 87, 88, 89, 90, 91, 92, 93, 94, 95] (by decide +kernel) (by decide +kernel)) (goodIn_sub (fun _ h => List.mem_cons_of_mem _ (List.mem_append_right _ h)) (by decide +kernel))
set_option maxRecDepth 20000 in
theorem gX4_choose_X4_show : GoodIn wsX4_choose (wsV RX4 162 RX4 yX4_show wsX4_show) := goodIn_app (goodIn_of _ (by decide +kernel)) ggX4_choose_X4_show
set_option maxRecDepth 20000 in
theorem ggX4_choose_X4_wipe : GoodIn wsX4_choose wsX4_wipe := goodIn_ca (goodIn_r _ [73, 46, 36, 3, 64, 65, 66, 67, 8, 68, 37, 69, 74, 75, 76, 77, 78, 79, 80, 81, 82, 83, 84, 85, 86, 87, 88, 89, 90, 91, 92, 93, 94, 95] (by decide +kernel) (by decide +kernel)) (goodIn_sub (fun _ h => List.mem_cons_of_mem _ (List.mem_append_right _ h)) (by decide +kernel))
set_option maxRecDepth 20000 in
theorem gX4_choose_X4_wipe : GoodIn wsX4_choose (wsV RX4 166 RX4 yX4_wipe wsX4_wipe) := goodIn_app (goodIn_of _ (by decide +kernel)) ggX4_choose_X4_wipe
set_option maxRecDepth 20000 in
theorem ggX4_go_X4_in : GoodIn wsX4_go wsX4_in := goodIn_r _ [11] (by decide +kernel) (by decide +kernel)
set_option maxRecDepth 20000 in
theorem gX4_go_X4_in : GoodIn wsX4_go (va_wsS RX4 70 yX4_in wsX4_in) := goodIn_app (goodIn_of _ (by decide +kernel)) ggX4_go_X4_in
set_option maxRecDepth 20000 in
theorem ggX4_go_X4_fails : GoodIn wsX4_go wsX4_fails := goodIn_r _ [15, 1, 91, 92, 93, 94, 95, 96, 97, 98, 99, 100, 101, 102, 103, 104, 105, 106, 107, 108, 109, 110, 111, 112] (by decide +kernel) (by decide +kernel)
set_option maxRecDepth 20000 in
theorem gX4_go_X4_fails : GoodIn wsX4_go (wsV RX4 84 RX4 yX4_fails wsX4_fails) := goodIn_app (goodIn_of _ (by decide +kernel)) ggX4_go_X4_fails
set_option maxRecDepth 20000 in
theorem ggX4_go_X4_least : GoodIn wsX4_go wsX4_least := goodIn_r _ [18] (by decide +kernel) (by decide +kernel)
set_option maxRecDepth 20000 in
theorem gX4_go_X4_least : GoodIn wsX4_go (va_wsS RX4 104 yX4_least wsX4_least) := goodIn_app (goodIn_of _ (by decide +kernel)) ggX4_go_X4_least
set_option maxRecDepth 20000 in
theorem ggX4_go_X4_wipe : GoodIn wsX4_go wsX4_wipe := goodIn_ca (goodIn_r _ [22, 23, 4, 6, 24, 25, 26, 27, 10, 28, 29, 30, 91, 92, 93, 94, 95, 96, 97, 98, 99, 100, 101, 102, 103, 104, 105, 106, 107, 108, 109, 110, 111, 112] (by decide +kernel) (by decide +kernel)) (goodIn_sub (fun _ h => List.mem_cons_of_mem _ (List.mem_append_right _ h)) (by decide +kernel))
set_option maxRecDepth 20000 in
theorem gX4_go_X4_wipe : GoodIn wsX4_go (wsV RX4 166 RX4 yX4_wipe wsX4_wipe) := goodIn_app (goodIn_of _ (by decide +kernel)) ggX4_go_X4_wipe
set_option maxRecDepth 20000 in
theorem ggX4_go_X4_choose : GoodIn wsX4_go wsX4_choose := goodIn_ca (goodIn_r _ [34, 35, 36, 6, 37, 38, 39, 40, 10, 41, 42, 43, 44, 45, 46, 47, 2, 7, 48, 49, 50, 51, 52, 53, 54, 55, 56, 57, 58, 59, 60, 61, 62, 63, 64, 65, 4, 29, 66, 67, 68, 69, 70, 71, 72, 73, 23, 74, 75, 76, 77, 78, 79, 80, 81, 82, 83, 84, 85, 86, 87, 88, 89, 90, 24, 25, 26, 27, 28, 30, 19, 20, 21, 22, 91, 92, 93, 94, 95, 96, 97, 98, 99, 100, 101, 102, 103, 104, 105, 106, 107, 108, 109, 110, 111, 112] (by decide +kernel) (by decide +kernel)) (goodIn_sub (fun _ h => List.mem_cons_of_mem _ (List.mem_append_right _ h)) (by decide +kernel))
set_option maxRecDepth 20000 in
theorem gX4_go_X4_choose : GoodIn wsX4_go (wsV RX4 169 RX4 yX4_choose wsX4_choose) := goodIn_app (goodIn_of _ (by decide +kernel)) ggX4_go_X4_choose
set_option maxRecDepth 20000 in
theorem ggX4_cellAnew_X4_cell : GoodIn wsX4_cellAnew wsX4_cell := goodIn_ca (goodIn_r _ [5, 6, 7, 8, 9, 10, 4, 11, 12, 13, 14, 15, 16, 17, 18, 19, 20, 21, 22, 23, 24, 25, 26, 27, 28, 29, 30, 31, 32, 33, 34, 35, 36, 37, 38, 39, 40, 41, 42, 43, 44, 45] (by decide +kernel) (by decide +kernel)) (goodIn_sub (fun _ h => List.mem_cons_of_mem _ (List.mem_append_right _ h)) (by decide +kernel))
set_option maxRecDepth 20000 in
theorem gX4_cellAnew_X4_cell : GoodIn wsX4_cellAnew (wsV RX4 172 RX4 yX4_cell wsX4_cell) := goodIn_app (goodIn_of _ (by decide +kernel)) ggX4_cellAnew_X4_cell
set_option maxRecDepth 20000 in
theorem ggX4_worst_X4_noBoard : GoodIn wsX4_worst wsX4_noBoard := goodIn_r _ [7, 8, 9, 10, 6, 11, 19, 20, 21, 22, 23, 24, 25, 26, 27, 28, 29, 30, 31, 32, 33, 34, 35, 36, 37, 38, 39, 40] (by decide +kernel) (by decide +kernel)
set_option maxRecDepth 20000 in
theorem gX4_worst_X4_noBoard : GoodIn wsX4_worst (wsV RX4 88 RX4 yX4_noBoard wsX4_noBoard) := goodIn_app (goodIn_of _ (by decide +kernel)) ggX4_worst_X4_noBoard
set_option maxRecDepth 20000 in
theorem ggX4_worst_X4_fails : GoodIn wsX4_worst wsX4_fails := goodIn_r _ [15, 1, 19, 20, 21, 22, 23, 24, 25, 26, 27, 28, 29, 30, 31, 32, 33, 34, 35, 36, 37, 38, 39, 40] (by decide +kernel) (by decide +kernel)
set_option maxRecDepth 20000 in
theorem gX4_worst_X4_fails : GoodIn wsX4_worst (wsV RX4 84 RX4 yX4_fails wsX4_fails) := goodIn_app (goodIn_of _ (by decide +kernel)) ggX4_worst_X4_fails
set_option maxRecDepth 20000 in
theorem ggX4_worst_X4_most : GoodIn wsX4_worst wsX4_most := goodIn_r _ [18] (by decide +kernel) (by decide +kernel)
set_option maxRecDepth 20000 in
theorem gX4_worst_X4_most : GoodIn wsX4_worst (va_wsS RX4 108 yX4_most wsX4_most) := goodIn_app (goodIn_of _ (by decide +kernel)) ggX4_worst_X4_most
set_option maxRecDepth 20000 in
theorem ggX4_shownShare_X4_fails : GoodIn wsX4_shownShare wsX4_fails := goodIn_r _ [8, 1, 9, 10, 11, 12, 13, 14, 15, 16, 17, 18, 19, 20, 21, 22, 23, 24, 25, 26, 27, 28, 29, 30] (by decide +kernel) (by decide +kernel)
set_option maxRecDepth 20000 in
theorem gX4_shownShare_X4_fails : GoodIn wsX4_shownShare (wsV RX4 84 RX4 yX4_fails wsX4_fails) := goodIn_app (goodIn_of _ (by decide +kernel)) ggX4_shownShare_X4_fails
set_option maxRecDepth 20000 in
theorem ggX4_meanWear_X4_fails : GoodIn wsX4_meanWear wsX4_fails := goodIn_r _ [8, 1, 9, 10, 11, 12, 13, 14, 15, 16, 17, 18, 19, 20, 21, 22, 23, 24, 25, 26, 27, 28, 29, 30] (by decide +kernel) (by decide +kernel)
set_option maxRecDepth 20000 in
theorem gX4_meanWear_X4_fails : GoodIn wsX4_meanWear (wsV RX4 84 RX4 yX4_fails wsX4_fails) := goodIn_app (goodIn_of _ (by decide +kernel)) ggX4_meanWear_X4_fails
set_option maxRecDepth 20000 in
theorem ggL_addBoard_X3_addBoard : GoodIn wsL_addBoard wsX3_addBoard := goodIn_ca (goodIn_ca (goodIn_r _ [6, 7, 8, 9, 10, 11, 12, 13, 14, 5, 15, 16, 17, 18, 19, 20, 21, 22, 23, 24, 25, 26, 27, 28, 29, 30, 31, 32, 33, 34, 35, 36, 37, 38, 39, 40, 41, 42] (by decide +kernel) (by decide +kernel)) (goodIn_sub (fun _ h => List.mem_cons_of_mem _ (List.mem_append_left _ (List.mem_append_right _ h))) (by decide +kernel))) (goodIn_sub (fun _ h => List.mem_cons_of_mem _ (List.mem_append_right _ h)) (by decide +kernel))
set_option maxRecDepth 20000 in
theorem gL_addBoard_X3_addBoard : GoodIn wsL_addBoard (wsV RL 7 RX3 yX3_addBoard wsX3_addBoard) := goodIn_app (goodIn_of _ (by decide +kernel)) ggL_addBoard_X3_addBoard
set_option maxRecDepth 20000 in
theorem ggL_setSun_X3_setSun : GoodIn wsL_setSun wsX3_setSun := goodIn_ca (goodIn_r _ [6, 7, 8, 9, 10, 11, 12, 13, 14, 15, 16, 17] (by decide +kernel) (by decide +kernel)) (goodIn_sub (fun _ h => List.mem_cons_of_mem _ (List.mem_append_right _ h)) (by decide +kernel))
set_option maxRecDepth 20000 in
theorem gL_setSun_X3_setSun : GoodIn wsL_setSun (wsV RL 17 RX3 yX3_setSun wsX3_setSun) := goodIn_app (goodIn_of _ (by decide +kernel)) ggL_setSun_X3_setSun
set_option maxRecDepth 20000 in
theorem ggL_charge_X3_charge : GoodIn wsL_charge wsX3_charge := goodIn_ca (goodIn_r _ [6, 7, 8, 9, 5, 10, 11, 12, 13, 14, 15, 16, 17, 18, 19, 20, 21, 22, 23, 24, 25, 26, 27, 28, 29, 30, 31, 32, 33, 34] (by decide +kernel) (by decide +kernel)) (goodIn_sub (fun _ h => List.mem_cons_of_mem _ (List.mem_append_right _ h)) (by decide +kernel))
set_option maxRecDepth 20000 in
theorem gL_charge_X3_charge : GoodIn wsL_charge (wsV RL 21 RX3 yX3_charge wsX3_charge) := goodIn_app (goodIn_of _ (by decide +kernel)) ggL_charge_X3_charge
set_option maxRecDepth 20000 in
theorem ggL_cell_X3_cell : GoodIn wsL_cell wsX3_cell := goodIn_ca (goodIn_r _ [6, 7, 8, 9, 5, 10, 11, 12, 13, 14, 15, 16, 17, 18, 19, 20, 21, 22, 23, 24, 25, 26, 27, 28, 29, 30, 31, 32, 33, 34, 35, 36, 37, 38, 39, 40] (by decide +kernel) (by decide +kernel)) (goodIn_sub (fun _ h => List.mem_cons_of_mem _ (List.mem_append_right _ h)) (by decide +kernel))
set_option maxRecDepth 20000 in
theorem gL_cell_X3_cell : GoodIn wsL_cell (wsV RL 26 RX3 yX3_cell wsX3_cell) := goodIn_app (goodIn_of _ (by decide +kernel)) ggL_cell_X3_cell
set_option maxRecDepth 20000 in
theorem ggL_wear_X3_wear : GoodIn wsL_wear wsX3_wear := goodIn_ca (goodIn_ca (goodIn_r _ [6, 7, 8, 9, 5, 10, 11, 12, 13, 14, 15, 16, 17, 18, 19, 20, 21, 22, 23, 24, 25, 26, 27, 28, 29, 30, 31, 32, 33, 34, 35, 36, 37, 38, 39, 40, 41, 42, 43] (by decide +kernel) (by decide +kernel)) (goodIn_sub (fun _ h => List.mem_cons_of_mem _ (List.mem_append_right _ h)) (by decide +kernel))) (goodIn_sub (fun _ h => List.mem_cons_of_mem _ (List.mem_append_left _ (List.mem_append_right _ h))) (by decide +kernel))
set_option maxRecDepth 20000 in
theorem gL_wear_X3_wear : GoodIn wsL_wear (wsV RL 30 RX3 yX3_wear wsX3_wear) := goodIn_app (goodIn_of _ (by decide +kernel)) ggL_wear_X3_wear
set_option maxRecDepth 20000 in
theorem ggL_shows_X3_shows : GoodIn wsL_shows wsX3_shows := goodIn_ca (goodIn_r _ [6, 7, 8, 9, 5, 10, 11, 12, 13, 14, 15, 16, 17, 18, 19, 20, 21, 22, 23, 24, 25, 26, 27, 28, 29, 30, 31, 32, 33, 34, 35, 36, 37, 38, 39, 40, 41, 42, 43] (by decide +kernel) (by decide +kernel)) (goodIn_sub (fun _ h => List.mem_cons_of_mem _ (List.mem_append_right _ h)) (by decide +kernel))
set_option maxRecDepth 20000 in
theorem gL_shows_X3_shows : GoodIn wsL_shows (wsV RL 33 RX3 yX3_shows wsX3_shows) := goodIn_app (goodIn_of _ (by decide +kernel)) ggL_shows_X3_shows
set_option maxRecDepth 20000 in
theorem ggL_shift_X3_shift : GoodIn wsL_shift wsX3_shift := goodIn_ca (goodIn_r _ [6, 7, 8, 9, 5, 10, 11, 12, 13, 14, 15, 16, 17, 18, 19, 20, 21, 22, 23, 24, 25, 26, 27, 28, 29, 30, 31, 32, 33, 34] (by decide +kernel) (by decide +kernel)) (goodIn_sub (fun _ h => List.mem_cons_of_mem _ (List.mem_append_right _ h)) (by decide +kernel))
set_option maxRecDepth 20000 in
theorem gL_shift_X3_shift : GoodIn wsL_shift (wsV RL 36 RX3 yX3_shift wsX3_shift) := goodIn_app (goodIn_of _ (by decide +kernel)) ggL_shift_X3_shift
set_option maxRecDepth 20000 in
theorem ggL_sleeps_X3_sleeps : GoodIn wsL_sleeps wsX3_sleeps := goodIn_ca (goodIn_r _ [6, 7, 8, 9, 5, 10, 11, 12, 13, 14, 15, 16, 17, 18, 19, 20, 21, 22, 23, 24, 25, 26, 27, 28, 29, 30, 31, 32, 33, 34] (by decide +kernel) (by decide +kernel)) (goodIn_sub (fun _ h => List.mem_cons_of_mem _ (List.mem_append_right _ h)) (by decide +kernel))
set_option maxRecDepth 20000 in
theorem gL_sleeps_X3_sleeps : GoodIn wsL_sleeps (wsV RL 39 RX3 yX3_sleeps wsX3_sleeps) := goodIn_app (goodIn_of _ (by decide +kernel)) ggL_sleeps_X3_sleeps
set_option maxRecDepth 20000 in
theorem ggL_post_X3_post : GoodIn wsL_post wsX3_post := goodIn_ca (goodIn_ca (goodIn_r _ [6, 7, 8, 9, 10, 11, 5, 12, 13, 14, 15, 16, 17, 18, 19, 20, 21, 22, 23, 24, 25, 26, 27, 28, 29, 30, 31, 32, 33, 34, 35, 36, 37, 38, 39, 40, 41, 42, 43] (by decide +kernel) (by decide +kernel)) (goodIn_sub (fun _ h => List.mem_cons_of_mem _ (List.mem_append_left _ (List.mem_append_right _ h))) (by decide +kernel))) (goodIn_sub (fun _ h => List.mem_cons_of_mem _ (List.mem_append_right _ h)) (by decide +kernel))
set_option maxRecDepth 20000 in
theorem gL_post_X3_post : GoodIn wsL_post (wsV RL 43 RX3 yX3_post wsX3_post) := goodIn_app (goodIn_of _ (by decide +kernel)) ggL_post_X3_post
set_option maxRecDepth 20000 in
theorem ggL_queue_X3_queue : GoodIn wsL_queue wsX3_queue := goodIn_ca (goodIn_ca (goodIn_ca (goodIn_r _ [6, 7, 8, 9, 10, 11, 12, 5, 13, 14, 15, 16, 17, 18, 19, 20, 21, 22, 23, 24, 25, 26, 27, 28, 29, 30, 31, 32, 33, 34, 35, 36, 37, 38, 39, 40, 41, 42, 43, 44, 45, 46, 47, 48, 49, 50, 51, 52, 53, 54, 55, 56] (by decide +kernel) (by decide +kernel)) (goodIn_sub (fun _ h => List.mem_cons_of_mem _ (List.mem_append_left _ (List.mem_append_left _ (List.mem_append_right _ h)))) (by decide +kernel))) (goodIn_sub (fun _ h => List.mem_cons_of_mem _ (List.mem_append_left _ (List.mem_append_right _ h))) (by decide +kernel))) (goodIn_sub (fun _ h => List.mem_cons_of_mem _ (List.mem_append_right _ h)) (by decide +kernel))
set_option maxRecDepth 20000 in
theorem gL_queue_X3_queue : GoodIn wsL_queue (wsV RL 47 RX3 yX3_queue wsX3_queue) := goodIn_app (goodIn_of _ (by decide +kernel)) ggL_queue_X3_queue
set_option maxRecDepth 20000 in
theorem ggL_takeBack_X3_takeBack : GoodIn wsL_takeBack wsX3_takeBack := goodIn_ca (goodIn_ca (goodIn_ca (goodIn_r _ [6, 7, 8, 9, 10, 11, 12, 13, 14, 5, 15, 16, 17, 18, 19, 20, 21, 22, 23, 24, 25, 26, 27, 28, 29, 30, 31, 32, 33, 34, 35, 36, 37, 38, 39, 40, 41, 42, 43, 44, 45, 46, 47, 48, 49, 50, 51, 52, 53, 54] (by decide +kernel) (by decide +kernel)) (goodIn_sub (fun _ h => List.mem_cons_of_mem _ (List.mem_append_left _ (List.mem_append_left _ (List.mem_append_right _ h)))) (by decide +kernel))) (goodIn_sub (fun _ h => List.mem_cons_of_mem _ (List.mem_append_left _ (List.mem_append_right _ h))) (by decide +kernel))) (goodIn_sub (fun _ h => List.mem_cons_of_mem _ (List.mem_append_right _ h)) (by decide +kernel))
set_option maxRecDepth 20000 in
theorem gL_takeBack_X3_takeBack : GoodIn wsL_takeBack (wsV RL 53 RX3 yX3_takeBack wsX3_takeBack) := goodIn_app (goodIn_of _ (by decide +kernel)) ggL_takeBack_X3_takeBack
set_option maxRecDepth 20000 in
theorem ggL_mend_X3_mend : GoodIn wsL_mend wsX3_mend := goodIn_ca (goodIn_ca (goodIn_ca (goodIn_ca (goodIn_ca (goodIn_r _ [6, 7, 8, 9, 10, 11, 12, 13, 14, 15, 16, 17, 18, 19, 20, 21, 5, 22, 23, 24, 25, 26, 27, 28, 29, 30, 31, 32, 33, 34, 35, 36, 37, 38, 39, 40, 41, 42, 43, 44, 45, 46, 47, 48, 49, 50, 51, 52, 53, 54, 55, 56, 57, 58, 59, 60, 61, 62, 63, 64, 65, 66, 67, 68, 69, 70, 71, 72, 73, 74, 75, 76, 77, 78, 79, 80, 81, 82, 83, 84, 85, 86, 87, 88, 89, 90, 91, 92, 93, 94, 95, 96, 97] (by decide +kernel) (by decide +kernel)) (goodIn_sub (fun _ h => List.mem_cons_of_mem _ (List.mem_append_left _ (List.mem_append_left _ (List.mem_append_left _ (List.mem_append_right _ h))))) (by decide +kernel))) (goodIn_sub (fun _ h => List.mem_cons_of_mem _ (List.mem_append_left _ (List.mem_append_left _ (List.mem_append_right _ h)))) (by decide +kernel))) (goodIn_sub (fun _ h => List.mem_cons_of_mem _ (List.mem_append_left _ (List.mem_append_right _ h))) (by decide +kernel))) (goodIn_sub (fun _ h => List.mem_cons_of_mem _ (List.mem_append_right _ h)) (by decide +kernel))) (goodIn_sub (fun _ h => List.mem_cons_of_mem _ (List.mem_append_left _ (List.mem_append_left _ (List.mem_append_left _ (List.mem_append_left _ (List.mem_append_right _ h)))))) (by decide +kernel))
set_option maxRecDepth 20000 in
theorem gL_mend_X3_mend : GoodIn wsL_mend (wsV RL 56 RX3 yX3_mend wsX3_mend) := goodIn_app (goodIn_of _ (by decide +kernel)) ggL_mend_X3_mend
set_option maxRecDepth 20000 in
theorem ggL_deny_X3_deny : GoodIn wsL_deny wsX3_deny := goodIn_ca (goodIn_ca (goodIn_r _ [6, 7, 8, 9, 10, 11, 5, 12, 13, 14, 15, 16, 17, 18, 19, 20, 21, 22, 23, 24, 25, 26, 27, 28, 29, 30, 31, 32, 33, 34, 35, 36, 37, 38, 39, 40, 41, 42, 43, 44, 45, 46, 47, 48, 49, 50, 51, 52] (by decide +kernel) (by decide +kernel)) (goodIn_sub (fun _ h => List.mem_cons_of_mem _ (List.mem_append_left _ (List.mem_append_right _ h))) (by decide +kernel))) (goodIn_sub (fun _ h => List.mem_cons_of_mem _ (List.mem_append_right _ h)) (by decide +kernel))
set_option maxRecDepth 20000 in
theorem gL_deny_X3_deny : GoodIn wsL_deny (wsV RL 59 RX3 yX3_deny wsX3_deny) := goodIn_app (goodIn_of _ (by decide +kernel)) ggL_deny_X3_deny
set_option maxRecDepth 20000 in
theorem ggL_queued_X3_queued : GoodIn wsL_queued wsX3_queued := goodIn_ca (goodIn_r _ [6, 7, 8, 9, 10, 11, 5, 12, 13, 14, 15, 16, 17, 18, 19, 20, 21, 22, 23, 24, 25, 26, 27, 28, 29, 30, 31, 32, 33, 34, 35, 36, 37, 38, 39, 40, 41, 42, 43, 44] (by decide +kernel) (by decide +kernel)) (goodIn_sub (fun _ h => List.mem_cons_of_mem _ (List.mem_append_right _ h)) (by decide +kernel))
set_option maxRecDepth 20000 in
theorem gL_queued_X3_queued : GoodIn wsL_queued (wsV RL 62 RX3 yX3_queued wsX3_queued) := goodIn_app (goodIn_of _ (by decide +kernel)) ggL_queued_X3_queued
set_option maxRecDepth 20000 in
theorem ggL_queuedAt_X3_queuedAt : GoodIn wsL_queuedAt wsX3_queuedAt := goodIn_ca (goodIn_ca (goodIn_r _ [6, 7, 8, 9, 10, 11, 12, 13, 5, 14, 15, 16, 17, 18, 19, 20, 21, 22, 23, 24, 25, 26, 27, 28, 29, 30, 31, 32, 33, 34, 35, 36, 37, 38, 39, 40, 41, 42, 43, 44, 45, 46] (by decide +kernel) (by decide +kernel)) (goodIn_sub (fun _ h => List.mem_cons_of_mem _ (List.mem_append_left _ (List.mem_append_right _ h))) (by decide +kernel))) (goodIn_sub (fun _ h => List.mem_cons_of_mem _ (List.mem_append_right _ h)) (by decide +kernel))
set_option maxRecDepth 20000 in
theorem gL_queuedAt_X3_queuedAt : GoodIn wsL_queuedAt (wsV RL 65 RX3 yX3_queuedAt wsX3_queuedAt) := goodIn_app (goodIn_of _ (by decide +kernel)) ggL_queuedAt_X3_queuedAt
set_option maxRecDepth 20000 in
theorem ggL_isDue_X3_isDue : GoodIn wsL_isDue wsX3_isDue := goodIn_ca (goodIn_r _ [6, 7, 8, 9, 10, 5, 11, 12, 13, 14, 15, 16, 17, 18, 19, 20, 21, 22, 23, 24, 25, 26, 27, 28, 29, 30, 31, 32, 33, 34, 35, 36, 37, 38, 39] (by decide +kernel) (by decide +kernel)) (goodIn_sub (fun _ h => List.mem_cons_of_mem _ (List.mem_append_right _ h)) (by decide +kernel))
set_option maxRecDepth 20000 in
theorem gL_isDue_X3_isDue : GoodIn wsL_isDue (wsV RL 68 RX3 yX3_isDue wsX3_isDue) := goodIn_app (goodIn_of _ (by decide +kernel)) ggL_isDue_X3_isDue
set_option maxRecDepth 20000 in
theorem ggL_pass_X3_pass : GoodIn wsL_pass wsX3_pass := goodIn_ca (goodIn_ca (goodIn_ca (goodIn_r _ [6, 7, 8, 9, 10, 11, 12, 13, 5, 14, 15, 16, 17, 18, 19, 20, 21, 22, 23, 24, 25, 26, 27, 28, 29, 30, 31, 32, 33, 34, 35, 36, 37, 38, 39, 40, 41, 42, 43, 44, 45, 46, 47, 48, 49, 50, 51, 52, 53, 54, 55, 56, 57, 58, 59, 60, 61, 62, 63, 64] (by decide +kernel) (by decide +kernel)) (goodIn_sub (fun _ h => List.mem_cons_of_mem _ (List.mem_append_left _ (List.mem_append_right _ h))) (by decide +kernel))) (goodIn_sub (fun _ h => List.mem_cons_of_mem _ (List.mem_append_left _ (List.mem_append_left _ (List.mem_append_right _ h)))) (by decide +kernel))) (goodIn_sub (fun _ h => List.mem_cons_of_mem _ (List.mem_append_right _ h)) (by decide +kernel))
set_option maxRecDepth 20000 in
theorem gL_pass_X3_pass : GoodIn wsL_pass (wsV RL 71 RX3 yX3_pass wsX3_pass) := goodIn_app (goodIn_of _ (by decide +kernel)) ggL_pass_X3_pass
set_option maxRecDepth 20000 in
theorem ggL_readers_X3_readers : GoodIn wsL_readers wsX3_readers := goodIn_ca (goodIn_ca (goodIn_ca (goodIn_r _ [6, 7, 8, 9, 5, 10, 11, 12, 13, 14, 15, 16, 17, 18, 19, 20, 21, 22, 23, 24, 25, 26, 27, 28, 29, 30, 31, 32, 33, 34, 35, 36, 37, 38, 39, 40, 41, 42, 43, 44, 45, 46, 47, 48, 49, 50, 51, 52, 53, 54] (by decide +kernel) (by decide +kernel)) (goodIn_sub (fun _ h => List.mem_cons_of_mem _ (List.mem_append_left _ (List.mem_append_right _ h))) (by decide +kernel))) (goodIn_sub (fun _ h => List.mem_cons_of_mem _ (List.mem_append_right _ h)) (by decide +kernel))) (goodIn_sub (fun _ h => List.mem_cons_of_mem _ (List.mem_append_left _ (List.mem_append_left _ (List.mem_append_right _ h)))) (by decide +kernel))
set_option maxRecDepth 20000 in
theorem gL_readers_X3_readers : GoodIn wsL_readers (wsV RL 74 RX3 yX3_readers wsX3_readers) := goodIn_app (goodIn_of _ (by decide +kernel)) ggL_readers_X3_readers
set_option maxRecDepth 20000 in
theorem ggL_readIn_X3_readIn : GoodIn wsL_readIn wsX3_readIn := goodIn_ca (goodIn_ca (goodIn_r _ [6, 7, 8, 9, 10, 5, 11, 12, 13, 14, 15, 16, 17, 18, 19, 20, 21, 22, 23, 24, 25, 26, 27, 28, 29, 30, 31, 32, 33, 34, 35, 36, 37, 38, 39, 40, 41, 42, 43, 44, 45, 46, 47, 48, 49] (by decide +kernel) (by decide +kernel)) (goodIn_sub (fun _ h => List.mem_cons_of_mem _ (List.mem_append_right _ h)) (by decide +kernel))) (goodIn_sub (fun _ h => List.mem_cons_of_mem _ (List.mem_append_left _ (List.mem_append_right _ h))) (by decide +kernel))
set_option maxRecDepth 20000 in
theorem gL_readIn_X3_readIn : GoodIn wsL_readIn (wsV RL 77 RX3 yX3_readIn wsX3_readIn) := goodIn_app (goodIn_of _ (by decide +kernel)) ggL_readIn_X3_readIn
set_option maxRecDepth 20000 in
theorem ggL_suspects_X3_suspects : GoodIn wsL_suspects wsX3_suspects := goodIn_ca (goodIn_ca (goodIn_r _ [6, 7, 8, 9, 10, 5, 11, 12, 13, 14, 15, 16, 17, 18, 19, 20, 21, 22, 23, 24, 25, 26, 27, 28, 29, 30, 31, 32, 33, 34, 35, 36, 37, 38, 39, 40, 41, 42, 43, 44, 45, 46, 47, 48, 49, 50, 51, 52, 53, 54, 55, 56, 57, 58, 59, 60, 61, 62, 63, 64] (by decide +kernel) (by decide +kernel)) (goodIn_sub (fun _ h => List.mem_cons_of_mem _ (List.mem_append_right _ h)) (by decide +kernel))) (goodIn_sub (fun _ h => List.mem_cons_of_mem _ (List.mem_append_left _ (List.mem_append_right _ h))) (by decide +kernel))
set_option maxRecDepth 20000 in
theorem gL_suspects_X3_suspects : GoodIn wsL_suspects (wsV RL 80 RX3 yX3_suspects wsX3_suspects) := goodIn_app (goodIn_of _ (by decide +kernel)) ggL_suspects_X3_suspects
set_option maxRecDepth 20000 in
theorem ggL_suspectAt_X3_suspectAt : GoodIn wsL_suspectAt wsX3_suspectAt := goodIn_ca (goodIn_ca (goodIn_ca (goodIn_r _ [6, 7, 8, 9, 10, 11, 12, 5, 13, 14, 15, 16, 17, 18, 19, 20, 21, 22, 23, 24, 25, 26, 27, 28, 29, 30, 31, 32, 33, 34, 35, 36, 37, 38, 39, 40, 41, 42, 43, 44, 45, 46, 47, 48, 49, 50, 51, 52, 53, 54, 55, 56, 57, 58, 59, 60, 61, 62, 63, 64, 65, 66, 67, 68, 69, 70] (by decide +kernel) (by decide +kernel)) (goodIn_sub (fun _ h => List.mem_cons_of_mem _ (List.mem_append_left _ (List.mem_append_right _ h))) (by decide +kernel))) (goodIn_sub (fun _ h => List.mem_cons_of_mem _ (List.mem_append_right _ h)) (by decide +kernel))) (goodIn_sub (fun _ h => List.mem_cons_of_mem _ (List.mem_append_left _ (List.mem_append_left _ (List.mem_append_right _ h)))) (by decide +kernel))
set_option maxRecDepth 20000 in
theorem gL_suspectAt_X3_suspectAt : GoodIn wsL_suspectAt (wsV RL 83 RX3 yX3_suspectAt wsX3_suspectAt) := goodIn_app (goodIn_of _ (by decide +kernel)) ggL_suspectAt_X3_suspectAt
set_option maxRecDepth 20000 in
theorem ggL_go_X3_go : GoodIn wsL_go wsX3_go := goodIn_ca (goodIn_ca (goodIn_ca (goodIn_r _ [6, 7, 8, 9, 10, 11, 12, 13, 14, 15, 16, 5, 17, 18, 19, 20, 21, 22, 23, 24, 25, 26, 27, 28, 29, 30, 31, 32, 33, 34, 35, 36, 37, 38, 39, 40, 41, 42, 43, 44, 45, 46, 47, 48, 49, 50, 51, 52, 53, 54, 55, 56, 57, 58, 59, 60, 61, 62, 63, 64, 65, 66, 67, 68, 69, 70, 71, 72, 73, 74, 75, 76, 77, 78, 79, 80, 81, 82, 83, 84, 85, 86, 87, 88, 89, 90, 91, 92, 93, 94, 95, 96, 97, 98, 99, 100, 101, 102, 103, 104, 105, 106, 107, 108, 109, 110, 111, 112, 113, 114, 115, 116, 117, 118, 119, 120, 121, 122, 123, 124] (by decide +kernel) (by decide +kernel)) (goodIn_sub (fun _ h => List.mem_cons_of_mem _ (List.mem_append_left _ (List.mem_append_right _ h))) (by decide +kernel))) (goodIn_sub (fun _ h => List.mem_cons_of_mem _ (List.mem_append_right _ h)) (by decide +kernel))) (goodIn_sub (fun _ h => List.mem_cons_of_mem _ (List.mem_append_left _ (List.mem_append_left _ (List.mem_append_right _ h)))) (by decide +kernel))
set_option maxRecDepth 20000 in
theorem gL_go_X3_go : GoodIn wsL_go (wsV RL 86 RX3 yX3_go wsX3_go) := goodIn_app (goodIn_of _ (by decide +kernel)) ggL_go_X3_go
set_option maxRecDepth 20000 in
theorem ggL_cellAnew_X3_cellAnew : GoodIn wsL_cellAnew wsX3_cellAnew := goodIn_ca (goodIn_ca (goodIn_r _ [6, 7, 8, 9, 5, 10, 11, 12, 13, 14, 15, 16, 17, 18, 19, 20, 21, 22, 23, 24, 25, 26, 27, 28, 29, 30, 31, 32, 33, 34, 35, 36, 37, 38, 39, 40, 41, 42, 43, 44, 45, 46, 47] (by decide +kernel) (by decide +kernel)) (goodIn_sub (fun _ h => List.mem_cons_of_mem _ (List.mem_append_right _ h)) (by decide +kernel))) (goodIn_sub (fun _ h => List.mem_cons_of_mem _ (List.mem_append_left _ (List.mem_append_right _ h))) (by decide +kernel))
set_option maxRecDepth 20000 in
theorem gL_cellAnew_X3_cellAnew : GoodIn wsL_cellAnew (wsV RL 89 RX3 yX3_cellAnew wsX3_cellAnew) := goodIn_app (goodIn_of _ (by decide +kernel)) ggL_cellAnew_X3_cellAnew
set_option maxRecDepth 20000 in
theorem ggL_worst_X3_worst : GoodIn wsL_worst wsX3_worst := goodIn_ca (goodIn_r _ [6, 7, 8, 9, 5, 10, 11, 12, 13, 14, 15, 16, 17, 18, 19, 20, 21, 22, 23, 24, 25, 26, 27, 28, 29, 30, 31, 32, 33, 34] (by decide +kernel) (by decide +kernel)) (goodIn_sub (fun _ h => List.mem_cons_of_mem _ (List.mem_append_right _ h)) (by decide +kernel))
set_option maxRecDepth 20000 in
theorem gL_worst_X3_worst : GoodIn wsL_worst (wsV RL 92 RX3 yX3_worst wsX3_worst) := goodIn_app (goodIn_of _ (by decide +kernel)) ggL_worst_X3_worst
set_option maxRecDepth 20000 in
theorem ggL_shownShare_X3_shownShare : GoodIn wsL_shownShare wsX3_shownShare := goodIn_ca (goodIn_r _ [6, 7, 8, 9, 10, 11, 12, 13, 14, 15, 16, 17, 18, 19, 20, 21, 22, 23, 24, 25, 26, 27, 28, 29, 30] (by decide +kernel) (by decide +kernel)) (goodIn_sub (fun _ h => List.mem_cons_of_mem _ (List.mem_append_right _ h)) (by decide +kernel))
set_option maxRecDepth 20000 in
theorem gL_shownShare_X3_shownShare : GoodIn wsL_shownShare (wsV RL 95 RX3 yX3_shownShare wsX3_shownShare) := goodIn_app (goodIn_of _ (by decide +kernel)) ggL_shownShare_X3_shownShare
set_option maxRecDepth 20000 in
theorem ggL_meanWear_X3_meanWear : GoodIn wsL_meanWear wsX3_meanWear := goodIn_ca (goodIn_ca (goodIn_r _ [6, 7, 8, 9, 10, 11, 12, 5, 13, 14, 15, 16, 17, 18, 19, 20, 21, 22, 23, 24, 25, 26, 27, 28, 29, 30, 31, 32, 33, 34, 35, 36, 37, 38, 39, 40] (by decide +kernel) (by decide +kernel)) (goodIn_sub (fun _ h => List.mem_cons_of_mem _ (List.mem_append_right _ h)) (by decide +kernel))) (goodIn_sub (fun _ h => List.mem_cons_of_mem _ (List.mem_append_left _ (List.mem_append_right _ h))) (by decide +kernel))
set_option maxRecDepth 20000 in
theorem gL_meanWear_X3_meanWear : GoodIn wsL_meanWear (wsV RL 101 RX3 yX3_meanWear wsX3_meanWear) := goodIn_app (goodIn_of _ (by decide +kernel)) ggL_meanWear_X3_meanWear

