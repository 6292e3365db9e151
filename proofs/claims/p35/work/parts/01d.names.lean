theorem wsL_law_x0 : ∀ w ∈ (vx_atM "java/lang/ArithmeticException" ["java/lang/RuntimeException", "java/lang/Exception"]).filter goodWord, w ∈ lw_tbl := by decide +kernel
theorem wsL_law_x1 : ∀ w ∈ (vx_atM "java/lang/ArrayIndexOutOfBoundsException" ["java/lang/IndexOutOfBoundsException", "java/lang/RuntimeException", "java/lang/Exception"]).filter goodWord, w ∈ lw_tbl := by decide +kernel
theorem wsL_law_x2 : ∀ w ∈ (vx_atS RX3 55 "java/lang/IllegalArgumentException" ["java/lang/RuntimeException", "java/lang/Exception"]).filter goodWord, w ∈ lw_tbl := by decide +kernel
theorem wsL_law_x3 : ∀ w ∈ (vx_atS RX3 62 "java/lang/IllegalStateException" ["java/lang/RuntimeException", "java/lang/Exception"]).filter goodWord, w ∈ lw_tbl := by decide +kernel
theorem wsL_law_x4 : ∀ w ∈ (vx_atS RX3 184 "java/lang/IndexOutOfBoundsException" ["java/lang/RuntimeException", "java/lang/Exception"]).filter goodWord, w ∈ lw_tbl := by decide +kernel
theorem wsL_law_x5 : ∀ w ∈ (vx_atS RX3 128 "java/lang/UnsupportedOperationException" ["java/lang/RuntimeException", "java/lang/Exception"]).filter goodWord, w ∈ lw_tbl := by decide +kernel
theorem wsL_law_x6 : ∀ w ∈ (vx_atS RX3 242 "java/lang/ArithmeticException" ["java/lang/RuntimeException", "java/lang/Exception"]).filter goodWord, w ∈ lw_tbl := by decide +kernel
theorem wsL_law_in : ∀ w ∈ wsL_law, w ∈ lw_tbl := fun w h => (fun h => (List.mem_append.mp h).elim (wsL_law0_r1_in w) (fun h => (List.mem_append.mp h).elim (wsL_law0_r2_in w) (fun h => (List.mem_append.mp h).elim (wsL_law0_r3_in w) (fun h => (List.mem_append.mp h).elim (wsL_law0_r4_in w) (fun h => (List.mem_append.mp h).elim (wsL_law0_r5_in w) (fun h => (List.mem_append.mp h).elim (wsL_law0_r6_in w) (fun h => (List.mem_append.mp h).elim (wsL_law0_r7_in w) (fun h => (List.mem_append.mp h).elim (wsL_law0_r8_in w) (fun h => (List.mem_append.mp h).elim (wsL_law0_r9_in w) (fun h => (List.mem_append.mp h).elim (wsL_law0_r10_in w) (fun h => (List.mem_append.mp h).elim (wsL_law0_r11_in w) (fun h => (List.mem_append.mp h).elim (wsL_law0_r12_in w) (fun h => (List.mem_append.mp h).elim (wsL_law0_r13_in w) (fun h => (List.mem_append.mp h).elim (wsL_law0_r14_in w) (fun h => (List.mem_append.mp h).elim (wsL_law0_r15_in w) (fun h => (List.mem_append.mp h).elim (wsL_law0_r16_in w) (fun h => (List.mem_append.mp h).elim (wsL_law0_r17_in w) (fun h => (List.mem_append.mp h).elim (wsL_law0_r18_in w) (fun h => (List.mem_append.mp h).elim (wsX30_inT w) (fun h => (List.mem_append.mp h).elim (wsX20_inT w) (fun h => (List.mem_append.mp h).elim (wsX00_inT w) (fun h => (List.mem_append.mp h).elim (wsX10_inT w) (fun h => (List.mem_append.mp h).elim (wsL_law_x0 w) (fun h => (List.mem_append.mp h).elim (wsL_law_x1 w) (fun h => (List.mem_append.mp h).elim (wsL_law_x2 w) (fun h => (List.mem_append.mp h).elim (wsL_law_x3 w) (fun h => (List.mem_append.mp h).elim (wsL_law_x4 w) (fun h => (List.mem_append.mp h).elim (wsL_law_x5 w) (wsL_law_x6 w))))))))))))))))))))))))))))) h
theorem inlX0 : ∀ w ∈ wsX00, w ∈ wsL_law := fun _ h => (List.mem_append_right _ (List.mem_append_right _ (List.mem_append_right _ (List.mem_append_right _ (List.mem_append_right _ (List.mem_append_right _ (List.mem_append_right _ (List.mem_append_right _ (List.mem_append_right _ (List.mem_append_right _ (List.mem_append_right _ (List.mem_append_right _ (List.mem_append_right _ (List.mem_append_right _ (List.mem_append_right _ (List.mem_append_right _ (List.mem_append_right _ (List.mem_append_right _ (List.mem_append_right _ (List.mem_append_right _ (List.mem_append_left _ h)))))))))))))))))))))
theorem inX0 : ∀ w ∈ wsX00, w ∈ lw_tbl := fun w h => wsL_law_in w (inlX0 w h)
theorem inlX1 : ∀ w ∈ wsX10, w ∈ wsL_law := fun _ h => (List.mem_append_right _ (List.mem_append_right _ (List.mem_append_right _ (List.mem_append_right _ (List.mem_append_right _ (List.mem_append_right _ (List.mem_append_right _ (List.mem_append_right _ (List.mem_append_right _ (List.mem_append_right _ (List.mem_append_right _ (List.mem_append_right _ (List.mem_append_right _ (List.mem_append_right _ (List.mem_append_right _ (List.mem_append_right _ (List.mem_append_right _ (List.mem_append_right _ (List.mem_append_right _ (List.mem_append_right _ (List.mem_append_right _ (List.mem_append_left _ h))))))))))))))))))))))
theorem inX1 : ∀ w ∈ wsX10, w ∈ lw_tbl := fun w h => wsL_law_in w (inlX1 w h)
theorem inlX2 : ∀ w ∈ wsX20, w ∈ wsL_law := fun _ h => (List.mem_append_right _ (List.mem_append_right _ (List.mem_append_right _ (List.mem_append_right _ (List.mem_append_right _ (List.mem_append_right _ (List.mem_append_right _ (List.mem_append_right _ (List.mem_append_right _ (List.mem_append_right _ (List.mem_append_right _ (List.mem_append_right _ (List.mem_append_right _ (List.mem_append_right _ (List.mem_append_right _ (List.mem_append_right _ (List.mem_append_right _ (List.mem_append_right _ (List.mem_append_right _ (List.mem_append_left _ h))))))))))))))))))))
theorem inX2 : ∀ w ∈ wsX20, w ∈ lw_tbl := fun w h => wsL_law_in w (inlX2 w h)
theorem inlX3 : ∀ w ∈ wsX30, w ∈ wsL_law := fun _ h => (List.mem_append_right _ (List.mem_append_right _ (List.mem_append_right _ (List.mem_append_right _ (List.mem_append_right _ (List.mem_append_right _ (List.mem_append_right _ (List.mem_append_right _ (List.mem_append_right _ (List.mem_append_right _ (List.mem_append_right _ (List.mem_append_right _ (List.mem_append_right _ (List.mem_append_right _ (List.mem_append_right _ (List.mem_append_right _ (List.mem_append_right _ (List.mem_append_right _ (List.mem_append_left _ h)))))))))))))))))))
theorem inX3 : ∀ w ∈ wsX30, w ∈ lw_tbl := fun w h => wsL_law_in w (inlX3 w h)
theorem inX4 : ∀ w ∈ wsX40, w ∈ lw_tbl := by decide +kernel
theorem inJx00060 : ∀ w ∈ wsJx000600, w ∈ lw_tbl := by decide +kernel
theorem inJ6 : ∀ w ∈ wsJ60, w ∈ lw_tbl := by decide +kernel
theorem inJ9 : ∀ w ∈ wsJ90, w ∈ lw_tbl := by decide +kernel
theorem inJ0 : ∀ w ∈ wsJ00, w ∈ lw_tbl := by decide +kernel
theorem dX0_init_0 : decode cX0_init 0 = .ok (.aload_n 0, 1) := by decide +kernel
theorem dX0_init_1 : decode cX0_init 1 = .ok (.invokespecial 3, 3) := by decide +kernel
theorem dX0_init_4 : decode cX0_init 4 = .ok (.aload_n 0, 1) := by decide +kernel
theorem dX0_init_5 : decode cX0_init 5 = .ok (.iconst 0, 1) := by decide +kernel
theorem dX0_init_6 : decode cX0_init 6 = .ok (.putfield 9, 3) := by decide +kernel
theorem dX0_init_9 : decode cX0_init 9 = .ok (.aload_n 0, 1) := by decide +kernel
theorem dX0_init_10 : decode cX0_init 10 = .ok (.iconst 0, 1) := by decide +kernel
theorem dX0_init_11 : decode cX0_init 11 = .ok (.putfield 15, 3) := by decide +kernel
theorem dX0_init_14 : decode cX0_init 14 = .ok (.aload_n 0, 1) := by decide +kernel
theorem dX0_init_15 : decode cX0_init 15 = .ok (.aconst_null, 1) := by decide +kernel
theorem dX0_init_16 : decode cX0_init 16 = .ok (.putfield 18, 3) := by decide +kernel
theorem dX0_init_19 : decode cX0_init 19 = .ok (.aload_n 0, 1) := by decide +kernel
theorem dX0_init_20 : decode cX0_init 20 = .ok (.iconst 0, 1) := by decide +kernel
theorem dX0_init_21 : decode cX0_init 21 = .ok (.putfield 22, 3) := by decide +kernel
theorem dX0_init_24 : decode cX0_init 24 = .ok (.aload_n 0, 1) := by decide +kernel
theorem dX0_init_25 : decode cX0_init 25 = .ok (.iconst 0, 1) := by decide +kernel
theorem dX0_init_26 : decode cX0_init 26 = .ok (.putfield 25, 3) := by decide +kernel
theorem dX0_init_29 : decode cX0_init 29 = .ok (.aload_n 0, 1) := by decide +kernel
theorem dX0_init_30 : decode cX0_init 30 = .ok (.iconst 0, 1) := by decide +kernel
theorem dX0_init_31 : decode cX0_init 31 = .ok (.putfield 29, 3) := by decide +kernel
theorem dX0_init_34 : decode cX0_init 34 = .ok (.aload_n 0, 1) := by decide +kernel
theorem dX0_init_35 : decode cX0_init 35 = .ok (.bipush 32, 2) := by decide +kernel
theorem dX0_init_37 : decode cX0_init 37 = .ok (.newarray .int, 2) := by decide +kernel
theorem dX0_init_39 : decode cX0_init 39 = .ok (.putfield 32, 3) := by decide +kernel
theorem dX0_init_42 : decode cX0_init 42 = .ok (.aload_n 0, 1) := by decide +kernel
theorem dX0_init_43 : decode cX0_init 43 = .ok (.iconst 0, 1) := by decide +kernel
theorem dX0_init_44 : decode cX0_init 44 = .ok (.putfield 36, 3) := by decide +kernel
theorem dX0_init_47 : decode cX0_init 47 = .ok (.aload_n 0, 1) := by decide +kernel
theorem dX0_init_48 : decode cX0_init 48 = .ok (.iconst (-1), 1) := by decide +kernel
theorem dX0_init_49 : decode cX0_init 49 = .ok (.putfield 39, 3) := by decide +kernel
theorem dX0_init_52 : decode cX0_init 52 = .ok (.aload_n 0, 1) := by decide +kernel
theorem dX0_init_53 : decode cX0_init 53 = .ok (.iconst 0, 1) := by decide +kernel
theorem dX0_init_54 : decode cX0_init 54 = .ok (.putfield 42, 3) := by decide +kernel
theorem dX0_init_57 : decode cX0_init 57 = .ok (.aload_n 0, 1) := by decide +kernel
theorem dX0_init_58 : decode cX0_init 58 = .ok (.sipush 1920, 3) := by decide +kernel
theorem dX0_init_61 : decode cX0_init 61 = .ok (.newarray .int, 2) := by decide +kernel
theorem dX0_init_63 : decode cX0_init 63 = .ok (.putfield 45, 3) := by decide +kernel
theorem dX0_init_66 : decode cX0_init 66 = .ok (.aload_n 0, 1) := by decide +kernel
theorem dX0_init_67 : decode cX0_init 67 = .ok (.iconst 0, 1) := by decide +kernel
theorem dX0_init_68 : decode cX0_init 68 = .ok (.putfield 48, 3) := by decide +kernel
theorem dX0_init_71 : decode cX0_init 71 = .ok (.return_, 1) := by decide +kernel
theorem dX0_settle_0 : decode cX0_settle 0 = .ok (.aload_n 0, 1) := by decide +kernel
theorem dX0_settle_1 : decode cX0_settle 1 = .ok (.iload_n 1, 1) := by decide +kernel
theorem dX0_settle_2 : decode cX0_settle 2 = .ok (.putfield 9, 3) := by decide +kernel
theorem dX0_settle_5 : decode cX0_settle 5 = .ok (.aload_n 0, 1) := by decide +kernel
theorem dX0_settle_6 : decode cX0_settle 6 = .ok (.iload_n 2, 1) := by decide +kernel
theorem dX0_settle_7 : decode cX0_settle 7 = .ok (.putfield 15, 3) := by decide +kernel
theorem dX0_settle_10 : decode cX0_settle 10 = .ok (.return_, 1) := by decide +kernel
theorem dX0_chargeBy_0 : decode cX0_chargeBy 0 = .ok (.aload_n 0, 1) := by decide +kernel
theorem dX0_chargeBy_1 : decode cX0_chargeBy 1 = .ok (.aload_n 0, 1) := by decide +kernel
theorem dX0_chargeBy_2 : decode cX0_chargeBy 2 = .ok (.getfield 15, 3) := by decide +kernel
theorem dX0_chargeBy_5 : decode cX0_chargeBy 5 = .ok (.iload_n 1, 1) := by decide +kernel
theorem dX0_chargeBy_6 : decode cX0_chargeBy 6 = .ok (.iadd, 1) := by decide +kernel
theorem dX0_chargeBy_7 : decode cX0_chargeBy 7 = .ok (.sipush 200, 3) := by decide +kernel
theorem dX0_chargeBy_10 : decode cX0_chargeBy 10 = .ok (.invokestatic 51, 3) := by decide +kernel
theorem dX0_chargeBy_13 : decode cX0_chargeBy 13 = .ok (.putfield 15, 3) := by decide +kernel
theorem dX0_chargeBy_16 : decode cX0_chargeBy 16 = .ok (.return_, 1) := by decide +kernel
theorem dX0_wearOf_0 : decode cX0_wearOf 0 = .ok (.iload_n 1, 1) := by decide +kernel
theorem dX0_wearOf_1 : decode cX0_wearOf 1 = .ok (.ifCond .lt 9, 3) := by decide +kernel
theorem dX0_wearOf_4 : decode cX0_wearOf 4 = .ok (.iload_n 1, 1) := by decide +kernel
theorem dX0_wearOf_5 : decode cX0_wearOf 5 = .ok (.bipush 32, 2) := by decide +kernel
theorem dX0_wearOf_7 : decode cX0_wearOf 7 = .ok (.if_icmp .lt 7, 3) := by decide +kernel
theorem dX0_wearOf_10 : decode cX0_wearOf 10 = .ok (.iconst 0, 1) := by decide +kernel
theorem dX0_wearOf_11 : decode cX0_wearOf 11 = .ok (.goto 9, 3) := by decide +kernel
theorem dX0_wearOf_14 : decode cX0_wearOf 14 = .ok (.aload_n 0, 1) := by decide +kernel
theorem dX0_wearOf_15 : decode cX0_wearOf 15 = .ok (.getfield 32, 3) := by decide +kernel
theorem dX0_wearOf_18 : decode cX0_wearOf 18 = .ok (.iload_n 1, 1) := by decide +kernel
theorem dX0_wearOf_19 : decode cX0_wearOf 19 = .ok (.iaload, 1) := by decide +kernel
theorem dX0_wearOf_20 : decode cX0_wearOf 20 = .ok (.ireturn, 1) := by decide +kernel
theorem dX0_wearOfAll_0 : decode cX0_wearOfAll 0 = .ok (.iconst 0, 1) := by decide +kernel
theorem dX0_wearOfAll_1 : decode cX0_wearOfAll 1 = .ok (.istore_n 1, 1) := by decide +kernel
theorem dX0_wearOfAll_2 : decode cX0_wearOfAll 2 = .ok (.iconst 0, 1) := by decide +kernel
theorem dX0_wearOfAll_3 : decode cX0_wearOfAll 3 = .ok (.istore_n 2, 1) := by decide +kernel
theorem dX0_wearOfAll_4 : decode cX0_wearOfAll 4 = .ok (.iload_n 2, 1) := by decide +kernel
theorem dX0_wearOfAll_5 : decode cX0_wearOfAll 5 = .ok (.bipush 32, 2) := by decide +kernel
theorem dX0_wearOfAll_7 : decode cX0_wearOfAll 7 = .ok (.if_icmp .ge 18, 3) := by decide +kernel
theorem dX0_wearOfAll_10 : decode cX0_wearOfAll 10 = .ok (.iload_n 1, 1) := by decide +kernel
theorem dX0_wearOfAll_11 : decode cX0_wearOfAll 11 = .ok (.aload_n 0, 1) := by decide +kernel
theorem dX0_wearOfAll_12 : decode cX0_wearOfAll 12 = .ok (.getfield 32, 3) := by decide +kernel
theorem dX0_wearOfAll_15 : decode cX0_wearOfAll 15 = .ok (.iload_n 2, 1) := by decide +kernel
theorem dX0_wearOfAll_16 : decode cX0_wearOfAll 16 = .ok (.iaload, 1) := by decide +kernel
theorem dX0_wearOfAll_17 : decode cX0_wearOfAll 17 = .ok (.iadd, 1) := by decide +kernel
theorem dX0_wearOfAll_18 : decode cX0_wearOfAll 18 = .ok (.istore_n 1, 1) := by decide +kernel
theorem dX0_wearOfAll_19 : decode cX0_wearOfAll 19 = .ok (.iinc 2 1, 3) := by decide +kernel
theorem dX0_wearOfAll_22 : decode cX0_wearOfAll 22 = .ok (.goto (-18), 3) := by decide +kernel
theorem dX0_wearOfAll_25 : decode cX0_wearOfAll 25 = .ok (.iload_n 1, 1) := by decide +kernel
theorem dX0_wearOfAll_26 : decode cX0_wearOfAll 26 = .ok (.ireturn, 1) := by decide +kernel
theorem dX0_blackAnew_0 : decode cX0_blackAnew 0 = .ok (.iconst 0, 1) := by decide +kernel
theorem dX0_blackAnew_1 : decode cX0_blackAnew 1 = .ok (.istore_n 1, 1) := by decide +kernel
theorem dX0_blackAnew_2 : decode cX0_blackAnew 2 = .ok (.iconst 0, 1) := by decide +kernel
theorem dX0_blackAnew_3 : decode cX0_blackAnew 3 = .ok (.istore_n 2, 1) := by decide +kernel
theorem dX0_blackAnew_4 : decode cX0_blackAnew 4 = .ok (.iload_n 2, 1) := by decide +kernel
theorem dX0_blackAnew_5 : decode cX0_blackAnew 5 = .ok (.aload_n 0, 1) := by decide +kernel
theorem dX0_blackAnew_6 : decode cX0_blackAnew 6 = .ok (.getfield 48, 3) := by decide +kernel
theorem dX0_blackAnew_9 : decode cX0_blackAnew 9 = .ok (.if_icmp .ge 18, 3) := by decide +kernel
theorem dX0_blackAnew_12 : decode cX0_blackAnew 12 = .ok (.iload_n 1, 1) := by decide +kernel
theorem dX0_blackAnew_13 : decode cX0_blackAnew 13 = .ok (.aload_n 0, 1) := by decide +kernel
theorem dX0_blackAnew_14 : decode cX0_blackAnew 14 = .ok (.getfield 45, 3) := by decide +kernel
theorem dX0_blackAnew_17 : decode cX0_blackAnew 17 = .ok (.iload_n 2, 1) := by decide +kernel
theorem dX0_blackAnew_18 : decode cX0_blackAnew 18 = .ok (.iaload, 1) := by decide +kernel
theorem dX0_blackAnew_19 : decode cX0_blackAnew 19 = .ok (.ixor, 1) := by decide +kernel
theorem dX0_blackAnew_20 : decode cX0_blackAnew 20 = .ok (.istore_n 1, 1) := by decide +kernel
theorem dX0_blackAnew_21 : decode cX0_blackAnew 21 = .ok (.iinc 2 1, 3) := by decide +kernel
theorem dX0_blackAnew_24 : decode cX0_blackAnew 24 = .ok (.goto (-20), 3) := by decide +kernel
theorem dX0_blackAnew_27 : decode cX0_blackAnew 27 = .ok (.iload_n 1, 1) := by decide +kernel
theorem dX0_blackAnew_28 : decode cX0_blackAnew 28 = .ok (.ireturn, 1) := by decide +kernel
theorem dX0_canWipe_0 : decode cX0_canWipe 0 = .ok (.iconst 0, 1) := by decide +kernel
theorem dX0_canWipe_1 : decode cX0_canWipe 1 = .ok (.istore_n 1, 1) := by decide +kernel
theorem dX0_canWipe_2 : decode cX0_canWipe 2 = .ok (.iload_n 1, 1) := by decide +kernel
theorem dX0_canWipe_3 : decode cX0_canWipe 3 = .ok (.bipush 32, 2) := by decide +kernel
theorem dX0_canWipe_5 : decode cX0_canWipe 5 = .ok (.if_icmp .ge 34, 3) := by decide +kernel
theorem dX0_canWipe_8 : decode cX0_canWipe 8 = .ok (.aload_n 0, 1) := by decide +kernel
theorem dX0_canWipe_9 : decode cX0_canWipe 9 = .ok (.getfield 29, 3) := by decide +kernel
theorem dX0_canWipe_12 : decode cX0_canWipe 12 = .ok (.iload_n 1, 1) := by decide +kernel
theorem dX0_canWipe_13 : decode cX0_canWipe 13 = .ok (.invokestatic 57, 3) := by decide +kernel
theorem dX0_canWipe_16 : decode cX0_canWipe 16 = .ok (.iconst 1, 1) := by decide +kernel
theorem dX0_canWipe_17 : decode cX0_canWipe 17 = .ok (.if_icmp .ne 16, 3) := by decide +kernel
theorem dX0_canWipe_20 : decode cX0_canWipe 20 = .ok (.aload_n 0, 1) := by decide +kernel
theorem dX0_canWipe_21 : decode cX0_canWipe 21 = .ok (.getfield 32, 3) := by decide +kernel
theorem dX0_canWipe_24 : decode cX0_canWipe 24 = .ok (.iload_n 1, 1) := by decide +kernel
theorem dX0_canWipe_25 : decode cX0_canWipe 25 = .ok (.iaload, 1) := by decide +kernel
theorem dX0_canWipe_26 : decode cX0_canWipe 26 = .ok (.bipush 60, 2) := by decide +kernel
theorem dX0_canWipe_28 : decode cX0_canWipe 28 = .ok (.if_icmp .lt 5, 3) := by decide +kernel
theorem dX0_canWipe_31 : decode cX0_canWipe 31 = .ok (.iconst 0, 1) := by decide +kernel
theorem dX0_canWipe_32 : decode cX0_canWipe 32 = .ok (.ireturn, 1) := by decide +kernel
theorem dX0_canWipe_33 : decode cX0_canWipe 33 = .ok (.iinc 1 1, 3) := by decide +kernel
theorem dX0_canWipe_36 : decode cX0_canWipe 36 = .ok (.goto (-34), 3) := by decide +kernel
theorem dX0_canWipe_39 : decode cX0_canWipe 39 = .ok (.aload_n 0, 1) := by decide +kernel
theorem dX0_canWipe_40 : decode cX0_canWipe 40 = .ok (.getfield 29, 3) := by decide +kernel
theorem dX0_canWipe_43 : decode cX0_canWipe 43 = .ok (.invokestatic 60, 3) := by decide +kernel
theorem dX0_canWipe_46 : decode cX0_canWipe 46 = .ok (.aload_n 0, 1) := by decide +kernel
theorem dX0_canWipe_47 : decode cX0_canWipe 47 = .ok (.getfield 15, 3) := by decide +kernel
theorem dX0_canWipe_50 : decode cX0_canWipe 50 = .ok (.if_icmp .gt 7, 3) := by decide +kernel
theorem dX0_canWipe_53 : decode cX0_canWipe 53 = .ok (.iconst 1, 1) := by decide +kernel
theorem dX0_canWipe_54 : decode cX0_canWipe 54 = .ok (.goto 4, 3) := by decide +kernel
theorem dX0_canWipe_57 : decode cX0_canWipe 57 = .ok (.iconst 0, 1) := by decide +kernel
theorem dX0_canWipe_58 : decode cX0_canWipe 58 = .ok (.ireturn, 1) := by decide +kernel
theorem dX0_wipe_0 : decode cX0_wipe 0 = .ok (.aload_n 0, 1) := by decide +kernel
theorem dX0_wipe_1 : decode cX0_wipe 1 = .ok (.aload_n 0, 1) := by decide +kernel
theorem dX0_wipe_2 : decode cX0_wipe 2 = .ok (.getfield 29, 3) := by decide +kernel
theorem dX0_wipe_5 : decode cX0_wipe 5 = .ok (.invokevirtual 66, 3) := by decide +kernel
theorem dX0_wipe_8 : decode cX0_wipe 8 = .ok (.aload_n 0, 1) := by decide +kernel
theorem dX0_wipe_9 : decode cX0_wipe 9 = .ok (.aconst_null, 1) := by decide +kernel
theorem dX0_wipe_10 : decode cX0_wipe 10 = .ok (.putfield 18, 3) := by decide +kernel
theorem dX0_wipe_13 : decode cX0_wipe 13 = .ok (.aload_n 0, 1) := by decide +kernel
theorem dX0_wipe_14 : decode cX0_wipe 14 = .ok (.iconst 0, 1) := by decide +kernel
theorem dX0_wipe_15 : decode cX0_wipe 15 = .ok (.putfield 22, 3) := by decide +kernel
theorem dX0_wipe_18 : decode cX0_wipe 18 = .ok (.return_, 1) := by decide +kernel
theorem dX0_takesUp_0 : decode cX0_takesUp 0 = .ok (.aload_n 0, 1) := by decide +kernel
theorem dX0_takesUp_1 : decode cX0_takesUp 1 = .ok (.getfield 18, 3) := by decide +kernel
theorem dX0_takesUp_4 : decode cX0_takesUp 4 = .ok (.aload_n 1, 1) := by decide +kernel
theorem dX0_takesUp_5 : decode cX0_takesUp 5 = .ok (.if_acmp .ne 5, 3) := by decide +kernel
theorem dX0_takesUp_8 : decode cX0_takesUp 8 = .ok (.iconst 1, 1) := by decide +kernel
theorem dX0_takesUp_9 : decode cX0_takesUp 9 = .ok (.ireturn, 1) := by decide +kernel
theorem dX0_takesUp_10 : decode cX0_takesUp 10 = .ok (.aload_n 0, 1) := by decide +kernel
theorem dX0_takesUp_11 : decode cX0_takesUp 11 = .ok (.aload_n 1, 1) := by decide +kernel
theorem dX0_takesUp_12 : decode cX0_takesUp 12 = .ok (.getfield 70, 3) := by decide +kernel
theorem dX0_takesUp_15 : decode cX0_takesUp 15 = .ok (.invokevirtual 75, 3) := by decide +kernel
theorem dX0_takesUp_18 : decode cX0_takesUp 18 = .ok (.istore_n 2, 1) := by decide +kernel
theorem dX0_takesUp_19 : decode cX0_takesUp 19 = .ok (.iload_n 2, 1) := by decide +kernel
theorem dX0_takesUp_20 : decode cX0_takesUp 20 = .ok (.iconst (-1), 1) := by decide +kernel
theorem dX0_takesUp_21 : decode cX0_takesUp 21 = .ok (.if_icmp .ne 5, 3) := by decide +kernel
theorem dX0_takesUp_24 : decode cX0_takesUp 24 = .ok (.iconst 0, 1) := by decide +kernel
theorem dX0_takesUp_25 : decode cX0_takesUp 25 = .ok (.ireturn, 1) := by decide +kernel
theorem dX0_takesUp_26 : decode cX0_takesUp 26 = .ok (.aload_n 0, 1) := by decide +kernel
theorem dX0_takesUp_27 : decode cX0_takesUp 27 = .ok (.aload_n 0, 1) := by decide +kernel
theorem dX0_takesUp_28 : decode cX0_takesUp 28 = .ok (.getfield 29, 3) := by decide +kernel
theorem dX0_takesUp_31 : decode cX0_takesUp 31 = .ok (.aload_n 1, 1) := by decide +kernel
theorem dX0_takesUp_32 : decode cX0_takesUp 32 = .ok (.getfield 70, 3) := by decide +kernel
theorem dX0_takesUp_35 : decode cX0_takesUp 35 = .ok (.iload_n 2, 1) := by decide +kernel
theorem dX0_takesUp_36 : decode cX0_takesUp 36 = .ok (.invokestatic 78, 3) := by decide +kernel
theorem dX0_takesUp_39 : decode cX0_takesUp 39 = .ok (.ixor, 1) := by decide +kernel
theorem dX0_takesUp_40 : decode cX0_takesUp 40 = .ok (.invokevirtual 66, 3) := by decide +kernel
theorem dX0_takesUp_43 : decode cX0_takesUp 43 = .ok (.aload_n 0, 1) := by decide +kernel
theorem dX0_takesUp_44 : decode cX0_takesUp 44 = .ok (.aload_n 1, 1) := by decide +kernel
theorem dX0_takesUp_45 : decode cX0_takesUp 45 = .ok (.putfield 18, 3) := by decide +kernel
theorem dX0_takesUp_48 : decode cX0_takesUp 48 = .ok (.aload_n 0, 1) := by decide +kernel
theorem dX0_takesUp_49 : decode cX0_takesUp 49 = .ok (.iload_n 2, 1) := by decide +kernel
theorem dX0_takesUp_50 : decode cX0_takesUp 50 = .ok (.putfield 22, 3) := by decide +kernel
theorem dX0_takesUp_53 : decode cX0_takesUp 53 = .ok (.iconst 1, 1) := by decide +kernel
theorem dX0_takesUp_54 : decode cX0_takesUp 54 = .ok (.ireturn, 1) := by decide +kernel
theorem dX0_bestShift_0 : decode cX0_bestShift 0 = .ok (.iconst (-1), 1) := by decide +kernel
theorem dX0_bestShift_1 : decode cX0_bestShift 1 = .ok (.istore_n 2, 1) := by decide +kernel
theorem dX0_bestShift_2 : decode cX0_bestShift 2 = .ok (.iconst 0, 1) := by decide +kernel
theorem dX0_bestShift_3 : decode cX0_bestShift 3 = .ok (.istore_n 3, 1) := by decide +kernel
theorem dX0_bestShift_4 : decode cX0_bestShift 4 = .ok (.iconst 0, 1) := by decide +kernel
theorem dX0_bestShift_5 : decode cX0_bestShift 5 = .ok (.istore 4, 2) := by decide +kernel
theorem dX0_bestShift_7 : decode cX0_bestShift 7 = .ok (.iconst 0, 1) := by decide +kernel
theorem dX0_bestShift_8 : decode cX0_bestShift 8 = .ok (.istore 5, 2) := by decide +kernel
theorem dX0_bestShift_10 : decode cX0_bestShift 10 = .ok (.iload 5, 2) := by decide +kernel
theorem dX0_bestShift_12 : decode cX0_bestShift 12 = .ok (.bipush 8, 2) := by decide +kernel
theorem dX0_bestShift_14 : decode cX0_bestShift 14 = .ok (.if_icmp .ge 85, 3) := by decide +kernel
theorem dX0_bestShift_17 : decode cX0_bestShift 17 = .ok (.iload_n 1, 1) := by decide +kernel
theorem dX0_bestShift_18 : decode cX0_bestShift 18 = .ok (.iload 5, 2) := by decide +kernel
theorem dX0_bestShift_20 : decode cX0_bestShift 20 = .ok (.invokestatic 78, 3) := by decide +kernel
theorem dX0_bestShift_23 : decode cX0_bestShift 23 = .ok (.istore 6, 2) := by decide +kernel
theorem dX0_bestShift_25 : decode cX0_bestShift 25 = .ok (.aload_n 0, 1) := by decide +kernel
theorem dX0_bestShift_26 : decode cX0_bestShift 26 = .ok (.iload 6, 2) := by decide +kernel
theorem dX0_bestShift_28 : decode cX0_bestShift 28 = .ok (.invokevirtual 81, 3) := by decide +kernel
theorem dX0_bestShift_31 : decode cX0_bestShift 31 = .ok (.ifCond .eq 62, 3) := by decide +kernel
theorem dX0_bestShift_34 : decode cX0_bestShift 34 = .ok (.aload_n 0, 1) := by decide +kernel
theorem dX0_bestShift_35 : decode cX0_bestShift 35 = .ok (.aload_n 0, 1) := by decide +kernel
theorem dX0_bestShift_36 : decode cX0_bestShift 36 = .ok (.getfield 29, 3) := by decide +kernel
theorem dX0_bestShift_39 : decode cX0_bestShift 39 = .ok (.iload 6, 2) := by decide +kernel
theorem dX0_bestShift_41 : decode cX0_bestShift 41 = .ok (.ixor, 1) := by decide +kernel
theorem dX0_bestShift_42 : decode cX0_bestShift 42 = .ok (.invokevirtual 85, 3) := by decide +kernel
theorem dX0_bestShift_45 : decode cX0_bestShift 45 = .ok (.istore 7, 2) := by decide +kernel
theorem dX0_bestShift_47 : decode cX0_bestShift 47 = .ok (.aload_n 0, 1) := by decide +kernel
theorem dX0_bestShift_48 : decode cX0_bestShift 48 = .ok (.getfield 29, 3) := by decide +kernel
theorem dX0_bestShift_51 : decode cX0_bestShift 51 = .ok (.iload 6, 2) := by decide +kernel
theorem dX0_bestShift_53 : decode cX0_bestShift 53 = .ok (.ixor, 1) := by decide +kernel
theorem dX0_bestShift_54 : decode cX0_bestShift 54 = .ok (.invokestatic 60, 3) := by decide +kernel
theorem dX0_bestShift_57 : decode cX0_bestShift 57 = .ok (.istore 8, 2) := by decide +kernel
theorem dX0_bestShift_59 : decode cX0_bestShift 59 = .ok (.iload_n 2, 1) := by decide +kernel
theorem dX0_bestShift_60 : decode cX0_bestShift 60 = .ok (.iconst (-1), 1) := by decide +kernel
theorem dX0_bestShift_61 : decode cX0_bestShift 61 = .ok (.if_icmp .eq 22, 3) := by decide +kernel
theorem dX0_bestShift_64 : decode cX0_bestShift 64 = .ok (.iload 7, 2) := by decide +kernel
theorem dX0_bestShift_66 : decode cX0_bestShift 66 = .ok (.iload_n 3, 1) := by decide +kernel
theorem dX0_bestShift_67 : decode cX0_bestShift 67 = .ok (.if_icmp .lt 16, 3) := by decide +kernel
theorem dX0_bestShift_70 : decode cX0_bestShift 70 = .ok (.iload 7, 2) := by decide +kernel
theorem dX0_bestShift_72 : decode cX0_bestShift 72 = .ok (.iload_n 3, 1) := by decide +kernel
theorem dX0_bestShift_73 : decode cX0_bestShift 73 = .ok (.if_icmp .ne 20, 3) := by decide +kernel
theorem dX0_bestShift_76 : decode cX0_bestShift 76 = .ok (.iload 8, 2) := by decide +kernel
theorem dX0_bestShift_78 : decode cX0_bestShift 78 = .ok (.iload 4, 2) := by decide +kernel
theorem dX0_bestShift_80 : decode cX0_bestShift 80 = .ok (.if_icmp .ge 13, 3) := by decide +kernel
theorem dX0_bestShift_83 : decode cX0_bestShift 83 = .ok (.iload 5, 2) := by decide +kernel
theorem dX0_bestShift_85 : decode cX0_bestShift 85 = .ok (.istore_n 2, 1) := by decide +kernel
theorem dX0_bestShift_86 : decode cX0_bestShift 86 = .ok (.iload 7, 2) := by decide +kernel
theorem dX0_bestShift_88 : decode cX0_bestShift 88 = .ok (.istore_n 3, 1) := by decide +kernel
theorem dX0_bestShift_89 : decode cX0_bestShift 89 = .ok (.iload 8, 2) := by decide +kernel
theorem dX0_bestShift_91 : decode cX0_bestShift 91 = .ok (.istore 4, 2) := by decide +kernel
theorem dX0_bestShift_93 : decode cX0_bestShift 93 = .ok (.iinc 5 1, 3) := by decide +kernel
theorem dX0_bestShift_96 : decode cX0_bestShift 96 = .ok (.goto (-86), 3) := by decide +kernel
theorem dX0_bestShift_99 : decode cX0_bestShift 99 = .ok (.iload_n 2, 1) := by decide +kernel
theorem dX0_bestShift_100 : decode cX0_bestShift 100 = .ok (.ireturn, 1) := by decide +kernel
theorem dX0_canTurnTo_0 : decode cX0_canTurnTo 0 = .ok (.aload_n 0, 1) := by decide +kernel
theorem dX0_canTurnTo_1 : decode cX0_canTurnTo 1 = .ok (.getfield 29, 3) := by decide +kernel
theorem dX0_canTurnTo_4 : decode cX0_canTurnTo 4 = .ok (.iload_n 1, 1) := by decide +kernel
theorem dX0_canTurnTo_5 : decode cX0_canTurnTo 5 = .ok (.ixor, 1) := by decide +kernel
theorem dX0_canTurnTo_6 : decode cX0_canTurnTo 6 = .ok (.istore_n 2, 1) := by decide +kernel
theorem dX0_canTurnTo_7 : decode cX0_canTurnTo 7 = .ok (.iload_n 2, 1) := by decide +kernel
theorem dX0_canTurnTo_8 : decode cX0_canTurnTo 8 = .ok (.iload_n 1, 1) := by decide +kernel
theorem dX0_canTurnTo_9 : decode cX0_canTurnTo 9 = .ok (.ior, 1) := by decide +kernel
theorem dX0_canTurnTo_10 : decode cX0_canTurnTo 10 = .ok (.aload_n 0, 1) := by decide +kernel
theorem dX0_canTurnTo_11 : decode cX0_canTurnTo 11 = .ok (.getfield 42, 3) := by decide +kernel
theorem dX0_canTurnTo_14 : decode cX0_canTurnTo 14 = .ok (.iand, 1) := by decide +kernel
theorem dX0_canTurnTo_15 : decode cX0_canTurnTo 15 = .ok (.ifCond .ne 23, 3) := by decide +kernel
theorem dX0_canTurnTo_18 : decode cX0_canTurnTo 18 = .ok (.iload_n 2, 1) := by decide +kernel
theorem dX0_canTurnTo_19 : decode cX0_canTurnTo 19 = .ok (.invokestatic 60, 3) := by decide +kernel
theorem dX0_canTurnTo_22 : decode cX0_canTurnTo 22 = .ok (.iload_n 1, 1) := by decide +kernel
theorem dX0_canTurnTo_23 : decode cX0_canTurnTo 23 = .ok (.invokestatic 60, 3) := by decide +kernel
theorem dX0_canTurnTo_26 : decode cX0_canTurnTo 26 = .ok (.iadd, 1) := by decide +kernel
theorem dX0_canTurnTo_27 : decode cX0_canTurnTo 27 = .ok (.aload_n 0, 1) := by decide +kernel
theorem dX0_canTurnTo_28 : decode cX0_canTurnTo 28 = .ok (.getfield 15, 3) := by decide +kernel
theorem dX0_canTurnTo_31 : decode cX0_canTurnTo 31 = .ok (.if_icmp .gt 7, 3) := by decide +kernel
theorem dX0_canTurnTo_34 : decode cX0_canTurnTo 34 = .ok (.iconst 1, 1) := by decide +kernel
theorem dX0_canTurnTo_35 : decode cX0_canTurnTo 35 = .ok (.goto 4, 3) := by decide +kernel
theorem dX0_canTurnTo_38 : decode cX0_canTurnTo 38 = .ok (.iconst 0, 1) := by decide +kernel
theorem dX0_canTurnTo_39 : decode cX0_canTurnTo 39 = .ok (.ireturn, 1) := by decide +kernel
theorem dX0_greatestWearBehind_0 : decode cX0_greatestWearBehind 0 = .ok (.iload_n 1, 1) := by decide +kernel
theorem dX0_greatestWearBehind_1 : decode cX0_greatestWearBehind 1 = .ok (.aload_n 0, 1) := by decide +kernel
theorem dX0_greatestWearBehind_2 : decode cX0_greatestWearBehind 2 = .ok (.getfield 39, 3) := by decide +kernel
theorem dX0_greatestWearBehind_5 : decode cX0_greatestWearBehind 5 = .ok (.iand, 1) := by decide +kernel
theorem dX0_greatestWearBehind_6 : decode cX0_greatestWearBehind 6 = .ok (.ifCond .ne 10, 3) := by decide +kernel
theorem dX0_greatestWearBehind_9 : decode cX0_greatestWearBehind 9 = .ok (.aload_n 0, 1) := by decide +kernel
theorem dX0_greatestWearBehind_10 : decode cX0_greatestWearBehind 10 = .ok (.getfield 36, 3) := by decide +kernel
theorem dX0_greatestWearBehind_13 : decode cX0_greatestWearBehind 13 = .ok (.goto 9, 3) := by decide +kernel
theorem dX0_greatestWearBehind_16 : decode cX0_greatestWearBehind 16 = .ok (.aload_n 0, 1) := by decide +kernel
theorem dX0_greatestWearBehind_17 : decode cX0_greatestWearBehind 17 = .ok (.getfield 36, 3) := by decide +kernel
theorem dX0_greatestWearBehind_20 : decode cX0_greatestWearBehind 20 = .ok (.iconst 1, 1) := by decide +kernel
theorem dX0_greatestWearBehind_21 : decode cX0_greatestWearBehind 21 = .ok (.iadd, 1) := by decide +kernel
theorem dX0_greatestWearBehind_22 : decode cX0_greatestWearBehind 22 = .ok (.ireturn, 1) := by decide +kernel
theorem dX0_change_0 : decode cX0_change 0 = .ok (.aload_n 0, 1) := by decide +kernel
theorem dX0_change_1 : decode cX0_change 1 = .ok (.dup, 1) := by decide +kernel
theorem dX0_change_2 : decode cX0_change 2 = .ok (.getfield 15, 3) := by decide +kernel
theorem dX0_change_5 : decode cX0_change 5 = .ok (.iload_n 1, 1) := by decide +kernel
theorem dX0_change_6 : decode cX0_change 6 = .ok (.invokestatic 60, 3) := by decide +kernel
theorem dX0_change_9 : decode cX0_change 9 = .ok (.isub, 1) := by decide +kernel
theorem dX0_change_10 : decode cX0_change 10 = .ok (.putfield 15, 3) := by decide +kernel
theorem dX0_change_13 : decode cX0_change 13 = .ok (.aload_n 0, 1) := by decide +kernel
theorem dX0_change_14 : decode cX0_change 14 = .ok (.dup, 1) := by decide +kernel
theorem dX0_change_15 : decode cX0_change 15 = .ok (.getfield 29, 3) := by decide +kernel
theorem dX0_change_18 : decode cX0_change 18 = .ok (.iload_n 1, 1) := by decide +kernel
theorem dX0_change_19 : decode cX0_change 19 = .ok (.ixor, 1) := by decide +kernel
theorem dX0_change_20 : decode cX0_change 20 = .ok (.putfield 29, 3) := by decide +kernel
theorem dX0_change_23 : decode cX0_change 23 = .ok (.iload_n 1, 1) := by decide +kernel
theorem dX0_change_24 : decode cX0_change 24 = .ok (.ifCond .eq 35, 3) := by decide +kernel
theorem dX0_change_27 : decode cX0_change 27 = .ok (.aload_n 0, 1) := by decide +kernel
theorem dX0_change_28 : decode cX0_change 28 = .ok (.getfield 48, 3) := by decide +kernel
theorem dX0_change_31 : decode cX0_change 31 = .ok (.aload_n 0, 1) := by decide +kernel
theorem dX0_change_32 : decode cX0_change 32 = .ok (.getfield 45, 3) := by decide +kernel
theorem dX0_change_35 : decode cX0_change 35 = .ok (.arraylength, 1) := by decide +kernel
theorem dX0_change_36 : decode cX0_change 36 = .ok (.if_icmp .ge 23, 3) := by decide +kernel
theorem dX0_change_39 : decode cX0_change 39 = .ok (.aload_n 0, 1) := by decide +kernel
theorem dX0_change_40 : decode cX0_change 40 = .ok (.getfield 45, 3) := by decide +kernel
theorem dX0_change_43 : decode cX0_change 43 = .ok (.aload_n 0, 1) := by decide +kernel
theorem dX0_change_44 : decode cX0_change 44 = .ok (.getfield 48, 3) := by decide +kernel
theorem dX0_change_47 : decode cX0_change 47 = .ok (.iload_n 1, 1) := by decide +kernel
theorem dX0_change_48 : decode cX0_change 48 = .ok (.iastore, 1) := by decide +kernel
theorem dX0_change_49 : decode cX0_change 49 = .ok (.aload_n 0, 1) := by decide +kernel
theorem dX0_change_50 : decode cX0_change 50 = .ok (.dup, 1) := by decide +kernel
theorem dX0_change_51 : decode cX0_change 51 = .ok (.getfield 48, 3) := by decide +kernel
theorem dX0_change_54 : decode cX0_change 54 = .ok (.iconst 1, 1) := by decide +kernel
theorem dX0_change_55 : decode cX0_change 55 = .ok (.iadd, 1) := by decide +kernel
theorem dX0_change_56 : decode cX0_change 56 = .ok (.putfield 48, 3) := by decide +kernel
theorem dX0_change_59 : decode cX0_change 59 = .ok (.iconst 0, 1) := by decide +kernel
theorem dX0_change_60 : decode cX0_change 60 = .ok (.istore_n 2, 1) := by decide +kernel
theorem dX0_change_61 : decode cX0_change 61 = .ok (.iload_n 2, 1) := by decide +kernel
theorem dX0_change_62 : decode cX0_change 62 = .ok (.bipush 32, 2) := by decide +kernel
theorem dX0_change_64 : decode cX0_change 64 = .ok (.if_icmp .ge 23, 3) := by decide +kernel
theorem dX0_change_67 : decode cX0_change 67 = .ok (.iload_n 1, 1) := by decide +kernel
theorem dX0_change_68 : decode cX0_change 68 = .ok (.iload_n 2, 1) := by decide +kernel
theorem dX0_change_69 : decode cX0_change 69 = .ok (.invokestatic 57, 3) := by decide +kernel
theorem dX0_change_72 : decode cX0_change 72 = .ok (.iconst 1, 1) := by decide +kernel
theorem dX0_change_73 : decode cX0_change 73 = .ok (.if_icmp .ne 8, 3) := by decide +kernel
theorem dX0_change_76 : decode cX0_change 76 = .ok (.aload_n 0, 1) := by decide +kernel
theorem dX0_change_77 : decode cX0_change 77 = .ok (.iload_n 2, 1) := by decide +kernel
theorem dX0_change_78 : decode cX0_change 78 = .ok (.invokevirtual 88, 3) := by decide +kernel
theorem dX0_change_81 : decode cX0_change 81 = .ok (.iinc 2 1, 3) := by decide +kernel
theorem dX0_change_84 : decode cX0_change 84 = .ok (.goto (-23), 3) := by decide +kernel
theorem dX0_change_87 : decode cX0_change 87 = .ok (.return_, 1) := by decide +kernel
theorem dX0_wearOut_0 : decode cX0_wearOut 0 = .ok (.iload_n 1, 1) := by decide +kernel
theorem dX0_wearOut_1 : decode cX0_wearOut 1 = .ok (.ifCond .lt 9, 3) := by decide +kernel
theorem dX0_wearOut_4 : decode cX0_wearOut 4 = .ok (.iload_n 1, 1) := by decide +kernel
theorem dX0_wearOut_5 : decode cX0_wearOut 5 = .ok (.bipush 32, 2) := by decide +kernel
theorem dX0_wearOut_7 : decode cX0_wearOut 7 = .ok (.if_icmp .lt 4, 3) := by decide +kernel
theorem dX0_wearOut_10 : decode cX0_wearOut 10 = .ok (.return_, 1) := by decide +kernel
theorem dX0_wearOut_11 : decode cX0_wearOut 11 = .ok (.aload_n 0, 1) := by decide +kernel
theorem dX0_wearOut_12 : decode cX0_wearOut 12 = .ok (.getfield 32, 3) := by decide +kernel
theorem dX0_wearOut_15 : decode cX0_wearOut 15 = .ok (.iload_n 1, 1) := by decide +kernel
theorem dX0_wearOut_16 : decode cX0_wearOut 16 = .ok (.dup2, 1) := by decide +kernel
theorem dX0_wearOut_17 : decode cX0_wearOut 17 = .ok (.iaload, 1) := by decide +kernel
theorem dX0_wearOut_18 : decode cX0_wearOut 18 = .ok (.iconst 1, 1) := by decide +kernel
theorem dX0_wearOut_19 : decode cX0_wearOut 19 = .ok (.iadd, 1) := by decide +kernel
theorem dX0_wearOut_20 : decode cX0_wearOut 20 = .ok (.iastore, 1) := by decide +kernel
theorem dX0_wearOut_21 : decode cX0_wearOut 21 = .ok (.aload_n 0, 1) := by decide +kernel
theorem dX0_wearOut_22 : decode cX0_wearOut 22 = .ok (.getfield 32, 3) := by decide +kernel
theorem dX0_wearOut_25 : decode cX0_wearOut 25 = .ok (.iload_n 1, 1) := by decide +kernel
theorem dX0_wearOut_26 : decode cX0_wearOut 26 = .ok (.iaload, 1) := by decide +kernel
theorem dX0_wearOut_27 : decode cX0_wearOut 27 = .ok (.istore_n 2, 1) := by decide +kernel
theorem dX0_wearOut_28 : decode cX0_wearOut 28 = .ok (.iconst 1, 1) := by decide +kernel
theorem dX0_wearOut_29 : decode cX0_wearOut 29 = .ok (.iload_n 1, 1) := by decide +kernel
theorem dX0_wearOut_30 : decode cX0_wearOut 30 = .ok (.ishl, 1) := by decide +kernel
theorem dX0_wearOut_31 : decode cX0_wearOut 31 = .ok (.istore_n 3, 1) := by decide +kernel
theorem dX0_wearOut_32 : decode cX0_wearOut 32 = .ok (.iload_n 2, 1) := by decide +kernel
theorem dX0_wearOut_33 : decode cX0_wearOut 33 = .ok (.aload_n 0, 1) := by decide +kernel
theorem dX0_wearOut_34 : decode cX0_wearOut 34 = .ok (.getfield 36, 3) := by decide +kernel
theorem dX0_wearOut_37 : decode cX0_wearOut 37 = .ok (.if_icmp .le 13, 3) := by decide +kernel
theorem dX0_wearOut_40 : decode cX0_wearOut 40 = .ok (.aload_n 0, 1) := by decide +kernel
theorem dX0_wearOut_41 : decode cX0_wearOut 41 = .ok (.iload_n 2, 1) := by decide +kernel
theorem dX0_wearOut_42 : decode cX0_wearOut 42 = .ok (.putfield 36, 3) := by decide +kernel
theorem dX0_wearOut_45 : decode cX0_wearOut 45 = .ok (.aload_n 0, 1) := by decide +kernel
theorem dX0_wearOut_46 : decode cX0_wearOut 46 = .ok (.iconst 0, 1) := by decide +kernel
theorem dX0_wearOut_47 : decode cX0_wearOut 47 = .ok (.putfield 39, 3) := by decide +kernel
theorem dX0_wearOut_50 : decode cX0_wearOut 50 = .ok (.iload_n 2, 1) := by decide +kernel
theorem dX0_wearOut_51 : decode cX0_wearOut 51 = .ok (.aload_n 0, 1) := by decide +kernel
theorem dX0_wearOut_52 : decode cX0_wearOut 52 = .ok (.getfield 36, 3) := by decide +kernel
theorem dX0_wearOut_55 : decode cX0_wearOut 55 = .ok (.if_icmp .ne 13, 3) := by decide +kernel
theorem dX0_wearOut_58 : decode cX0_wearOut 58 = .ok (.aload_n 0, 1) := by decide +kernel
theorem dX0_wearOut_59 : decode cX0_wearOut 59 = .ok (.dup, 1) := by decide +kernel
theorem dX0_wearOut_60 : decode cX0_wearOut 60 = .ok (.getfield 39, 3) := by decide +kernel
theorem dX0_wearOut_63 : decode cX0_wearOut 63 = .ok (.iload_n 3, 1) := by decide +kernel
theorem dX0_wearOut_64 : decode cX0_wearOut 64 = .ok (.ior, 1) := by decide +kernel
theorem dX0_wearOut_65 : decode cX0_wearOut 65 = .ok (.putfield 39, 3) := by decide +kernel
theorem dX0_wearOut_68 : decode cX0_wearOut 68 = .ok (.iload_n 2, 1) := by decide +kernel
theorem dX0_wearOut_69 : decode cX0_wearOut 69 = .ok (.bipush 60, 2) := by decide +kernel
theorem dX0_wearOut_71 : decode cX0_wearOut 71 = .ok (.if_icmp .lt 13, 3) := by decide +kernel
theorem dX0_wearOut_74 : decode cX0_wearOut 74 = .ok (.aload_n 0, 1) := by decide +kernel
theorem dX0_wearOut_75 : decode cX0_wearOut 75 = .ok (.dup, 1) := by decide +kernel
theorem dX0_wearOut_76 : decode cX0_wearOut 76 = .ok (.getfield 42, 3) := by decide +kernel
theorem dX0_wearOut_79 : decode cX0_wearOut 79 = .ok (.iload_n 3, 1) := by decide +kernel
theorem dX0_wearOut_80 : decode cX0_wearOut 80 = .ok (.ior, 1) := by decide +kernel
theorem dX0_wearOut_81 : decode cX0_wearOut 81 = .ok (.putfield 42, 3) := by decide +kernel
theorem dX0_wearOut_84 : decode cX0_wearOut 84 = .ok (.return_, 1) := by decide +kernel
theorem dX1_init_0 : decode cX1_init 0 = .ok (.aload_n 0, 1) := by decide +kernel
theorem dX1_init_1 : decode cX1_init 1 = .ok (.invokespecial 3, 3) := by decide +kernel
theorem dX1_init_4 : decode cX1_init 4 = .ok (.aload_n 0, 1) := by decide +kernel
theorem dX1_init_5 : decode cX1_init 5 = .ok (.bipush 6, 2) := by decide +kernel
theorem dX1_init_7 : decode cX1_init 7 = .ok (.newarray .int, 2) := by decide +kernel
theorem dX1_init_9 : decode cX1_init 9 = .ok (.putfield 9, 3) := by decide +kernel
theorem dX1_init_12 : decode cX1_init 12 = .ok (.aload_n 0, 1) := by decide +kernel
theorem dX1_init_13 : decode cX1_init 13 = .ok (.iconst 0, 1) := by decide +kernel
theorem dX1_init_14 : decode cX1_init 14 = .ok (.putfield 15, 3) := by decide +kernel
theorem dX1_init_17 : decode cX1_init 17 = .ok (.aload_n 0, 1) := by decide +kernel
theorem dX1_init_18 : decode cX1_init 18 = .ok (.iconst 0, 1) := by decide +kernel
theorem dX1_init_19 : decode cX1_init 19 = .ok (.putfield 19, 3) := by decide +kernel
theorem dX1_init_22 : decode cX1_init 22 = .ok (.aload_n 0, 1) := by decide +kernel
theorem dX1_init_23 : decode cX1_init 23 = .ok (.iconst 0, 1) := by decide +kernel
theorem dX1_init_24 : decode cX1_init 24 = .ok (.putfield 22, 3) := by decide +kernel
theorem dX1_init_27 : decode cX1_init 27 = .ok (.aload_n 0, 1) := by decide +kernel
theorem dX1_init_28 : decode cX1_init 28 = .ok (.iconst 0, 1) := by decide +kernel
theorem dX1_init_29 : decode cX1_init 29 = .ok (.putfield 25, 3) := by decide +kernel
theorem dX1_init_32 : decode cX1_init 32 = .ok (.aload_n 0, 1) := by decide +kernel
theorem dX1_init_33 : decode cX1_init 33 = .ok (.iconst 0, 1) := by decide +kernel
theorem dX1_init_34 : decode cX1_init 34 = .ok (.putfield 28, 3) := by decide +kernel
theorem dX1_init_37 : decode cX1_init 37 = .ok (.aload_n 0, 1) := by decide +kernel
theorem dX1_init_38 : decode cX1_init 38 = .ok (.iconst 0, 1) := by decide +kernel
theorem dX1_init_39 : decode cX1_init 39 = .ok (.putfield 32, 3) := by decide +kernel
theorem dX1_init_42 : decode cX1_init 42 = .ok (.aload_n 0, 1) := by decide +kernel
theorem dX1_init_43 : decode cX1_init 43 = .ok (.iconst 0, 1) := by decide +kernel
theorem dX1_init_44 : decode cX1_init 44 = .ok (.putfield 35, 3) := by decide +kernel
theorem dX1_init_47 : decode cX1_init 47 = .ok (.aload_n 0, 1) := by decide +kernel
theorem dX1_init_48 : decode cX1_init 48 = .ok (.iload_n 1, 1) := by decide +kernel
theorem dX1_init_49 : decode cX1_init 49 = .ok (.putfield 38, 3) := by decide +kernel
theorem dX1_init_52 : decode cX1_init 52 = .ok (.return_, 1) := by decide +kernel
theorem dX1_fill_0 : decode cX1_fill 0 = .ok (.aload_n 0, 1) := by decide +kernel
theorem dX1_fill_1 : decode cX1_fill 1 = .ok (.iload_n 1, 1) := by decide +kernel
theorem dX1_fill_2 : decode cX1_fill 2 = .ok (.putfield 15, 3) := by decide +kernel
theorem dX1_fill_5 : decode cX1_fill 5 = .ok (.aload_n 0, 1) := by decide +kernel
theorem dX1_fill_6 : decode cX1_fill 6 = .ok (.iload_n 2, 1) := by decide +kernel
theorem dX1_fill_7 : decode cX1_fill 7 = .ok (.putfield 19, 3) := by decide +kernel
theorem dX1_fill_10 : decode cX1_fill 10 = .ok (.aload_n 0, 1) := by decide +kernel
theorem dX1_fill_11 : decode cX1_fill 11 = .ok (.iload_n 3, 1) := by decide +kernel
theorem dX1_fill_12 : decode cX1_fill 12 = .ok (.putfield 22, 3) := by decide +kernel
theorem dX1_fill_15 : decode cX1_fill 15 = .ok (.aload_n 0, 1) := by decide +kernel
theorem dX1_fill_16 : decode cX1_fill 16 = .ok (.iload 4, 2) := by decide +kernel
theorem dX1_fill_18 : decode cX1_fill 18 = .ok (.putfield 25, 3) := by decide +kernel
theorem dX1_fill_21 : decode cX1_fill 21 = .ok (.return_, 1) := by decide +kernel
theorem dX1_isOver_0 : decode cX1_isOver 0 = .ok (.aload_n 0, 1) := by decide +kernel
theorem dX1_isOver_1 : decode cX1_isOver 1 = .ok (.getfield 25, 3) := by decide +kernel
theorem dX1_isOver_4 : decode cX1_isOver 4 = .ok (.iload_n 1, 1) := by decide +kernel
theorem dX1_isOver_5 : decode cX1_isOver 5 = .ok (.if_icmp .gt 7, 3) := by decide +kernel
theorem dX1_isOver_8 : decode cX1_isOver 8 = .ok (.iconst 1, 1) := by decide +kernel
theorem dX1_isOver_9 : decode cX1_isOver 9 = .ok (.goto 4, 3) := by decide +kernel
theorem dX1_isOver_12 : decode cX1_isOver 12 = .ok (.iconst 0, 1) := by decide +kernel
theorem dX1_isOver_13 : decode cX1_isOver 13 = .ok (.ireturn, 1) := by decide +kernel
theorem dX1_isOf_0 : decode cX1_isOf 0 = .ok (.aload_n 0, 1) := by decide +kernel
theorem dX1_isOf_1 : decode cX1_isOf 1 = .ok (.getfield 22, 3) := by decide +kernel
theorem dX1_isOf_4 : decode cX1_isOf 4 = .ok (.iload_n 1, 1) := by decide +kernel
theorem dX1_isOf_5 : decode cX1_isOf 5 = .ok (.if_icmp .gt 15, 3) := by decide +kernel
theorem dX1_isOf_8 : decode cX1_isOf 8 = .ok (.iload_n 1, 1) := by decide +kernel
theorem dX1_isOf_9 : decode cX1_isOf 9 = .ok (.aload_n 0, 1) := by decide +kernel
theorem dX1_isOf_10 : decode cX1_isOf 10 = .ok (.getfield 25, 3) := by decide +kernel
theorem dX1_isOf_13 : decode cX1_isOf 13 = .ok (.if_icmp .ge 7, 3) := by decide +kernel
theorem dX1_isOf_16 : decode cX1_isOf 16 = .ok (.iconst 1, 1) := by decide +kernel
theorem dX1_isOf_17 : decode cX1_isOf 17 = .ok (.goto 4, 3) := by decide +kernel
theorem dX1_isOf_20 : decode cX1_isOf 20 = .ok (.iconst 0, 1) := by decide +kernel
theorem dX1_isOf_21 : decode cX1_isOf 21 = .ok (.ireturn, 1) := by decide +kernel
theorem dX1_putInto_0 : decode cX1_putInto 0 = .ok (.aload_n 0, 1) := by decide +kernel
theorem dX1_putInto_1 : decode cX1_putInto 1 = .ok (.dup, 1) := by decide +kernel
theorem dX1_putInto_2 : decode cX1_putInto 2 = .ok (.getfield 35, 3) := by decide +kernel
theorem dX1_putInto_5 : decode cX1_putInto 5 = .ok (.iconst 1, 1) := by decide +kernel
theorem dX1_putInto_6 : decode cX1_putInto 6 = .ok (.iload_n 1, 1) := by decide +kernel
theorem dX1_putInto_7 : decode cX1_putInto 7 = .ok (.ishl, 1) := by decide +kernel
theorem dX1_putInto_8 : decode cX1_putInto 8 = .ok (.ior, 1) := by decide +kernel
theorem dX1_putInto_9 : decode cX1_putInto 9 = .ok (.putfield 35, 3) := by decide +kernel
theorem dX1_putInto_12 : decode cX1_putInto 12 = .ok (.return_, 1) := by decide +kernel
theorem dX1_isQueuedIn_0 : decode cX1_isQueuedIn 0 = .ok (.aload_n 0, 1) := by decide +kernel
theorem dX1_isQueuedIn_1 : decode cX1_isQueuedIn 1 = .ok (.getfield 35, 3) := by decide +kernel
theorem dX1_isQueuedIn_4 : decode cX1_isQueuedIn 4 = .ok (.iload_n 1, 1) := by decide +kernel
theorem dX1_isQueuedIn_5 : decode cX1_isQueuedIn 5 = .ok (.invokestatic 41, 3) := by decide +kernel
theorem dX1_isQueuedIn_8 : decode cX1_isQueuedIn 8 = .ok (.iconst 1, 1) := by decide +kernel
theorem dX1_isQueuedIn_9 : decode cX1_isQueuedIn 9 = .ok (.if_icmp .ne 15, 3) := by decide +kernel
theorem dX1_isQueuedIn_12 : decode cX1_isQueuedIn 12 = .ok (.aload_n 0, 1) := by decide +kernel
theorem dX1_isQueuedIn_13 : decode cX1_isQueuedIn 13 = .ok (.iload_n 2, 1) := by decide +kernel
theorem dX1_isQueuedIn_14 : decode cX1_isQueuedIn 14 = .ok (.invokevirtual 45, 3) := by decide +kernel
theorem dX1_isQueuedIn_17 : decode cX1_isQueuedIn 17 = .ok (.ifCond .ne 7, 3) := by decide +kernel
theorem dX1_isQueuedIn_20 : decode cX1_isQueuedIn 20 = .ok (.iconst 1, 1) := by decide +kernel
theorem dX1_isQueuedIn_21 : decode cX1_isQueuedIn 21 = .ok (.goto 4, 3) := by decide +kernel
theorem dX1_isQueuedIn_24 : decode cX1_isQueuedIn 24 = .ok (.iconst 0, 1) := by decide +kernel
theorem dX1_isQueuedIn_25 : decode cX1_isQueuedIn 25 = .ok (.ireturn, 1) := by decide +kernel
theorem dX1_canHaveMade_0 : decode cX1_canHaveMade 0 = .ok (.iconst 0, 1) := by decide +kernel
theorem dX1_canHaveMade_1 : decode cX1_canHaveMade 1 = .ok (.istore_n 2, 1) := by decide +kernel
theorem dX1_canHaveMade_2 : decode cX1_canHaveMade 2 = .ok (.iload_n 2, 1) := by decide +kernel
theorem dX1_canHaveMade_3 : decode cX1_canHaveMade 3 = .ok (.bipush 8, 2) := by decide +kernel
theorem dX1_canHaveMade_5 : decode cX1_canHaveMade 5 = .ok (.if_icmp .ge 26, 3) := by decide +kernel
theorem dX1_canHaveMade_8 : decode cX1_canHaveMade 8 = .ok (.iload_n 1, 1) := by decide +kernel
theorem dX1_canHaveMade_9 : decode cX1_canHaveMade 9 = .ok (.aload_n 0, 1) := by decide +kernel
theorem dX1_canHaveMade_10 : decode cX1_canHaveMade 10 = .ok (.getfield 19, 3) := by decide +kernel
theorem dX1_canHaveMade_13 : decode cX1_canHaveMade 13 = .ok (.iload_n 2, 1) := by decide +kernel
theorem dX1_canHaveMade_14 : decode cX1_canHaveMade 14 = .ok (.invokestatic 49, 3) := by decide +kernel
theorem dX1_canHaveMade_17 : decode cX1_canHaveMade 17 = .ok (.iconst (-1), 1) := by decide +kernel
theorem dX1_canHaveMade_18 : decode cX1_canHaveMade 18 = .ok (.ixor, 1) := by decide +kernel
theorem dX1_canHaveMade_19 : decode cX1_canHaveMade 19 = .ok (.iand, 1) := by decide +kernel
theorem dX1_canHaveMade_20 : decode cX1_canHaveMade 20 = .ok (.ifCond .ne 5, 3) := by decide +kernel
theorem dX1_canHaveMade_23 : decode cX1_canHaveMade 23 = .ok (.iconst 1, 1) := by decide +kernel
theorem dX1_canHaveMade_24 : decode cX1_canHaveMade 24 = .ok (.ireturn, 1) := by decide +kernel
theorem dX1_canHaveMade_25 : decode cX1_canHaveMade 25 = .ok (.iinc 2 1, 3) := by decide +kernel
theorem dX1_canHaveMade_28 : decode cX1_canHaveMade 28 = .ok (.goto (-26), 3) := by decide +kernel
theorem dX1_canHaveMade_31 : decode cX1_canHaveMade 31 = .ok (.iconst 0, 1) := by decide +kernel
theorem dX1_canHaveMade_32 : decode cX1_canHaveMade 32 = .ok (.ireturn, 1) := by decide +kernel
theorem dX2_init_0 : decode cX2_init 0 = .ok (.aload_n 0, 1) := by decide +kernel
theorem dX2_init_1 : decode cX2_init 1 = .ok (.invokespecial 3, 3) := by decide +kernel
theorem dX2_init_4 : decode cX2_init 4 = .ok (.aload_n 0, 1) := by decide +kernel
theorem dX2_init_5 : decode cX2_init 5 = .ok (.sipush 512, 3) := by decide +kernel
theorem dX2_init_8 : decode cX2_init 8 = .ok (.newarray .int, 2) := by decide +kernel
theorem dX2_init_10 : decode cX2_init 10 = .ok (.putfield 9, 3) := by decide +kernel
theorem dX2_init_13 : decode cX2_init 13 = .ok (.aload_n 0, 1) := by decide +kernel
theorem dX2_init_14 : decode cX2_init 14 = .ok (.sipush 512, 3) := by decide +kernel
theorem dX2_init_17 : decode cX2_init 17 = .ok (.newarray .int, 2) := by decide +kernel
theorem dX2_init_19 : decode cX2_init 19 = .ok (.putfield 15, 3) := by decide +kernel
theorem dX2_init_22 : decode cX2_init 22 = .ok (.aload_n 0, 1) := by decide +kernel
theorem dX2_init_23 : decode cX2_init 23 = .ok (.sipush 512, 3) := by decide +kernel
theorem dX2_init_26 : decode cX2_init 26 = .ok (.newarray .int, 2) := by decide +kernel
theorem dX2_init_28 : decode cX2_init 28 = .ok (.putfield 18, 3) := by decide +kernel
theorem dX2_init_31 : decode cX2_init 31 = .ok (.aload_n 0, 1) := by decide +kernel
theorem dX2_init_32 : decode cX2_init 32 = .ok (.iconst 0, 1) := by decide +kernel
theorem dX2_init_33 : decode cX2_init 33 = .ok (.putfield 21, 3) := by decide +kernel
theorem dX2_init_36 : decode cX2_init 36 = .ok (.return_, 1) := by decide +kernel
theorem dX2_write_0 : decode cX2_write 0 = .ok (.aload_n 0, 1) := by decide +kernel
theorem dX2_write_1 : decode cX2_write 1 = .ok (.iload_n 1, 1) := by decide +kernel
theorem dX2_write_2 : decode cX2_write 2 = .ok (.iload_n 2, 1) := by decide +kernel
theorem dX2_write_3 : decode cX2_write 3 = .ok (.invokevirtual 25, 3) := by decide +kernel
theorem dX2_write_6 : decode cX2_write 6 = .ok (.istore 4, 2) := by decide +kernel
theorem dX2_write_8 : decode cX2_write 8 = .ok (.iload 4, 2) := by decide +kernel
theorem dX2_write_10 : decode cX2_write 10 = .ok (.iconst (-1), 1) := by decide +kernel
theorem dX2_write_11 : decode cX2_write 11 = .ok (.if_icmp .ne 45, 3) := by decide +kernel
theorem dX2_write_14 : decode cX2_write 14 = .ok (.aload_n 0, 1) := by decide +kernel
theorem dX2_write_15 : decode cX2_write 15 = .ok (.getfield 21, 3) := by decide +kernel
theorem dX2_write_18 : decode cX2_write 18 = .ok (.sipush 512, 3) := by decide +kernel
theorem dX2_write_21 : decode cX2_write 21 = .ok (.if_icmp .ge 35, 3) := by decide +kernel
theorem dX2_write_24 : decode cX2_write 24 = .ok (.aload_n 0, 1) := by decide +kernel
theorem dX2_write_25 : decode cX2_write 25 = .ok (.getfield 21, 3) := by decide +kernel
theorem dX2_write_28 : decode cX2_write 28 = .ok (.istore 4, 2) := by decide +kernel
theorem dX2_write_30 : decode cX2_write 30 = .ok (.aload_n 0, 1) := by decide +kernel
theorem dX2_write_31 : decode cX2_write 31 = .ok (.getfield 9, 3) := by decide +kernel
theorem dX2_write_34 : decode cX2_write 34 = .ok (.iload 4, 2) := by decide +kernel
theorem dX2_write_36 : decode cX2_write 36 = .ok (.iload_n 1, 1) := by decide +kernel
theorem dX2_write_37 : decode cX2_write 37 = .ok (.iastore, 1) := by decide +kernel
theorem dX2_write_38 : decode cX2_write 38 = .ok (.aload_n 0, 1) := by decide +kernel
theorem dX2_write_39 : decode cX2_write 39 = .ok (.getfield 15, 3) := by decide +kernel
theorem dX2_write_42 : decode cX2_write 42 = .ok (.iload 4, 2) := by decide +kernel
theorem dX2_write_44 : decode cX2_write 44 = .ok (.iload_n 2, 1) := by decide +kernel
theorem dX2_write_45 : decode cX2_write 45 = .ok (.iastore, 1) := by decide +kernel
theorem dX2_write_46 : decode cX2_write 46 = .ok (.aload_n 0, 1) := by decide +kernel
theorem dX2_write_47 : decode cX2_write 47 = .ok (.dup, 1) := by decide +kernel
theorem dX2_write_48 : decode cX2_write 48 = .ok (.getfield 21, 3) := by decide +kernel
theorem dX2_write_51 : decode cX2_write 51 = .ok (.iconst 1, 1) := by decide +kernel
theorem dX2_write_52 : decode cX2_write 52 = .ok (.iadd, 1) := by decide +kernel
theorem dX2_write_53 : decode cX2_write 53 = .ok (.putfield 21, 3) := by decide +kernel
theorem dX2_write_56 : decode cX2_write 56 = .ok (.iload 4, 2) := by decide +kernel
theorem dX2_write_58 : decode cX2_write 58 = .ok (.ifCond .lt 22, 3) := by decide +kernel
theorem dX2_write_61 : decode cX2_write 61 = .ok (.iload 4, 2) := by decide +kernel
theorem dX2_write_63 : decode cX2_write 63 = .ok (.sipush 512, 3) := by decide +kernel
theorem dX2_write_66 : decode cX2_write 66 = .ok (.if_icmp .ge 14, 3) := by decide +kernel
theorem dX2_write_69 : decode cX2_write 69 = .ok (.aload_n 0, 1) := by decide +kernel
theorem dX2_write_70 : decode cX2_write 70 = .ok (.getfield 18, 3) := by decide +kernel
theorem dX2_write_73 : decode cX2_write 73 = .ok (.iload 4, 2) := by decide +kernel
theorem dX2_write_75 : decode cX2_write 75 = .ok (.dup2, 1) := by decide +kernel
theorem dX2_write_76 : decode cX2_write 76 = .ok (.iaload, 1) := by decide +kernel
theorem dX2_write_77 : decode cX2_write 77 = .ok (.iload_n 3, 1) := by decide +kernel
theorem dX2_write_78 : decode cX2_write 78 = .ok (.iadd, 1) := by decide +kernel
theorem dX2_write_79 : decode cX2_write 79 = .ok (.iastore, 1) := by decide +kernel
theorem dX2_write_80 : decode cX2_write 80 = .ok (.return_, 1) := by decide +kernel
theorem dX2_peopleOf_0 : decode cX2_peopleOf 0 = .ok (.aload_n 0, 1) := by decide +kernel
theorem dX2_peopleOf_1 : decode cX2_peopleOf 1 = .ok (.iload_n 1, 1) := by decide +kernel
theorem dX2_peopleOf_2 : decode cX2_peopleOf 2 = .ok (.iload_n 2, 1) := by decide +kernel
theorem dX2_peopleOf_3 : decode cX2_peopleOf 3 = .ok (.invokevirtual 25, 3) := by decide +kernel
theorem dX2_peopleOf_6 : decode cX2_peopleOf 6 = .ok (.istore_n 3, 1) := by decide +kernel
theorem dX2_peopleOf_7 : decode cX2_peopleOf 7 = .ok (.iload_n 3, 1) := by decide +kernel
theorem dX2_peopleOf_8 : decode cX2_peopleOf 8 = .ok (.ifCond .lt 10, 3) := by decide +kernel
theorem dX2_peopleOf_11 : decode cX2_peopleOf 11 = .ok (.iload_n 3, 1) := by decide +kernel
theorem dX2_peopleOf_12 : decode cX2_peopleOf 12 = .ok (.sipush 512, 3) := by decide +kernel
theorem dX2_peopleOf_15 : decode cX2_peopleOf 15 = .ok (.if_icmp .lt 7, 3) := by decide +kernel
theorem dX2_peopleOf_18 : decode cX2_peopleOf 18 = .ok (.iconst 0, 1) := by decide +kernel
theorem dX2_peopleOf_19 : decode cX2_peopleOf 19 = .ok (.goto 9, 3) := by decide +kernel
theorem dX2_peopleOf_22 : decode cX2_peopleOf 22 = .ok (.aload_n 0, 1) := by decide +kernel
theorem dX2_peopleOf_23 : decode cX2_peopleOf 23 = .ok (.getfield 18, 3) := by decide +kernel
theorem dX2_peopleOf_26 : decode cX2_peopleOf 26 = .ok (.iload_n 3, 1) := by decide +kernel
theorem dX2_peopleOf_27 : decode cX2_peopleOf 27 = .ok (.iaload, 1) := by decide +kernel
theorem dX2_peopleOf_28 : decode cX2_peopleOf 28 = .ok (.ireturn, 1) := by decide +kernel
theorem dX2_find_0 : decode cX2_find 0 = .ok (.iconst 0, 1) := by decide +kernel
theorem dX2_find_1 : decode cX2_find 1 = .ok (.istore_n 3, 1) := by decide +kernel
theorem dX2_find_2 : decode cX2_find 2 = .ok (.iload_n 3, 1) := by decide +kernel
theorem dX2_find_3 : decode cX2_find 3 = .ok (.aload_n 0, 1) := by decide +kernel
theorem dX2_find_4 : decode cX2_find 4 = .ok (.getfield 21, 3) := by decide +kernel
theorem dX2_find_7 : decode cX2_find 7 = .ok (.if_icmp .ge 31, 3) := by decide +kernel
theorem dX2_find_10 : decode cX2_find 10 = .ok (.aload_n 0, 1) := by decide +kernel
theorem dX2_find_11 : decode cX2_find 11 = .ok (.getfield 9, 3) := by decide +kernel
theorem dX2_find_14 : decode cX2_find 14 = .ok (.iload_n 3, 1) := by decide +kernel
theorem dX2_find_15 : decode cX2_find 15 = .ok (.iaload, 1) := by decide +kernel
theorem dX2_find_16 : decode cX2_find 16 = .ok (.iload_n 1, 1) := by decide +kernel
theorem dX2_find_17 : decode cX2_find 17 = .ok (.if_icmp .ne 15, 3) := by decide +kernel
theorem dX2_find_20 : decode cX2_find 20 = .ok (.aload_n 0, 1) := by decide +kernel
theorem dX2_find_21 : decode cX2_find 21 = .ok (.getfield 15, 3) := by decide +kernel
theorem dX2_find_24 : decode cX2_find 24 = .ok (.iload_n 3, 1) := by decide +kernel
theorem dX2_find_25 : decode cX2_find 25 = .ok (.iaload, 1) := by decide +kernel
theorem dX2_find_26 : decode cX2_find 26 = .ok (.iload_n 2, 1) := by decide +kernel
theorem dX2_find_27 : decode cX2_find 27 = .ok (.if_icmp .ne 5, 3) := by decide +kernel
theorem dX2_find_30 : decode cX2_find 30 = .ok (.iload_n 3, 1) := by decide +kernel
theorem dX2_find_31 : decode cX2_find 31 = .ok (.ireturn, 1) := by decide +kernel
theorem dX2_find_32 : decode cX2_find 32 = .ok (.iinc 3 1, 3) := by decide +kernel
theorem dX2_find_35 : decode cX2_find 35 = .ok (.goto (-33), 3) := by decide +kernel
theorem dX2_find_38 : decode cX2_find 38 = .ok (.iconst (-1), 1) := by decide +kernel
theorem dX2_find_39 : decode cX2_find 39 = .ok (.ireturn, 1) := by decide +kernel
theorem dX3_init_0 : decode cX3_init 0 = .ok (.aload_n 0, 1) := by decide +kernel
theorem dX3_init_1 : decode cX3_init 1 = .ok (.invokespecial 3, 3) := by decide +kernel
theorem dX3_init_4 : decode cX3_init 4 = .ok (.aload_n 0, 1) := by decide +kernel
theorem dX3_init_5 : decode cX3_init 5 = .ok (.bipush 6, 2) := by decide +kernel
theorem dX3_init_7 : decode cX3_init 7 = .ok (.anewarray 9, 3) := by decide +kernel
theorem dX3_init_10 : decode cX3_init 10 = .ok (.putfield 11, 3) := by decide +kernel
theorem dX3_init_13 : decode cX3_init 13 = .ok (.aload_n 0, 1) := by decide +kernel
theorem dX3_init_14 : decode cX3_init 14 = .ok (.iconst 0, 1) := by decide +kernel
theorem dX3_init_15 : decode cX3_init 15 = .ok (.putfield 15, 3) := by decide +kernel
theorem dX3_init_18 : decode cX3_init 18 = .ok (.aload_n 0, 1) := by decide +kernel
theorem dX3_init_19 : decode cX3_init 19 = .ok (.bipush 40, 2) := by decide +kernel
theorem dX3_init_21 : decode cX3_init 21 = .ok (.anewarray 19, 3) := by decide +kernel
theorem dX3_init_24 : decode cX3_init 24 = .ok (.putfield 21, 3) := by decide +kernel
theorem dX3_init_27 : decode cX3_init 27 = .ok (.aload_n 0, 1) := by decide +kernel
theorem dX3_init_28 : decode cX3_init 28 = .ok (.bipush 40, 2) := by decide +kernel
theorem dX3_init_30 : decode cX3_init 30 = .ok (.anewarray 19, 3) := by decide +kernel
theorem dX3_init_33 : decode cX3_init 33 = .ok (.putfield 25, 3) := by decide +kernel
theorem dX3_init_36 : decode cX3_init 36 = .ok (.aload_n 0, 1) := by decide +kernel
theorem dX3_init_37 : decode cX3_init 37 = .ok (.iconst 0, 1) := by decide +kernel
theorem dX3_init_38 : decode cX3_init 38 = .ok (.putfield 28, 3) := by decide +kernel
theorem dX3_init_41 : decode cX3_init 41 = .ok (.aload_n 0, 1) := by decide +kernel
theorem dX3_init_42 : decode cX3_init 42 = .ok (.new 31, 3) := by decide +kernel
theorem dX3_init_45 : decode cX3_init 45 = .ok (.dup, 1) := by decide +kernel
theorem dX3_init_46 : decode cX3_init 46 = .ok (.invokespecial 33, 3) := by decide +kernel
theorem dX3_init_49 : decode cX3_init 49 = .ok (.putfield 34, 3) := by decide +kernel
theorem dX3_init_52 : decode cX3_init 52 = .ok (.aload_n 0, 1) := by decide +kernel
theorem dX3_init_53 : decode cX3_init 53 = .ok (.iconst 2, 1) := by decide +kernel
theorem dX3_init_54 : decode cX3_init 54 = .ok (.putfield 38, 3) := by decide +kernel
theorem dX3_init_57 : decode cX3_init 57 = .ok (.aload_n 0, 1) := by decide +kernel
theorem dX3_init_58 : decode cX3_init 58 = .ok (.iconst 0, 1) := by decide +kernel
theorem dX3_init_59 : decode cX3_init 59 = .ok (.putfield 41, 3) := by decide +kernel
theorem dX3_init_62 : decode cX3_init 62 = .ok (.iconst 0, 1) := by decide +kernel
theorem dX3_init_63 : decode cX3_init 63 = .ok (.istore_n 1, 1) := by decide +kernel
theorem dX3_init_64 : decode cX3_init 64 = .ok (.iload_n 1, 1) := by decide +kernel
theorem dX3_init_65 : decode cX3_init 65 = .ok (.bipush 6, 2) := by decide +kernel
theorem dX3_init_67 : decode cX3_init 67 = .ok (.if_icmp .ge 22, 3) := by decide +kernel
theorem dX3_init_70 : decode cX3_init 70 = .ok (.aload_n 0, 1) := by decide +kernel
theorem dX3_init_71 : decode cX3_init 71 = .ok (.getfield 11, 3) := by decide +kernel
theorem dX3_init_74 : decode cX3_init 74 = .ok (.iload_n 1, 1) := by decide +kernel
theorem dX3_init_75 : decode cX3_init 75 = .ok (.new 9, 3) := by decide +kernel
theorem dX3_init_78 : decode cX3_init 78 = .ok (.dup, 1) := by decide +kernel
theorem dX3_init_79 : decode cX3_init 79 = .ok (.invokespecial 44, 3) := by decide +kernel
theorem dX3_init_82 : decode cX3_init 82 = .ok (.aastore, 1) := by decide +kernel
theorem dX3_init_83 : decode cX3_init 83 = .ok (.iinc 1 1, 3) := by decide +kernel
theorem dX3_init_86 : decode cX3_init 86 = .ok (.goto (-22), 3) := by decide +kernel
theorem dX3_init_89 : decode cX3_init 89 = .ok (.iconst 0, 1) := by decide +kernel
theorem dX3_init_90 : decode cX3_init 90 = .ok (.istore_n 1, 1) := by decide +kernel
theorem dX3_init_91 : decode cX3_init 91 = .ok (.iload_n 1, 1) := by decide +kernel
theorem dX3_init_92 : decode cX3_init 92 = .ok (.bipush 40, 2) := by decide +kernel
theorem dX3_init_94 : decode cX3_init 94 = .ok (.if_icmp .ge 32, 3) := by decide +kernel
theorem dX3_init_97 : decode cX3_init 97 = .ok (.new 19, 3) := by decide +kernel
theorem dX3_init_100 : decode cX3_init 100 = .ok (.dup, 1) := by decide +kernel
theorem dX3_init_101 : decode cX3_init 101 = .ok (.iload_n 1, 1) := by decide +kernel
theorem dX3_init_102 : decode cX3_init 102 = .ok (.invokespecial 45, 3) := by decide +kernel
theorem dX3_init_105 : decode cX3_init 105 = .ok (.astore_n 2, 1) := by decide +kernel
theorem dX3_init_106 : decode cX3_init 106 = .ok (.aload_n 0, 1) := by decide +kernel
theorem dX3_init_107 : decode cX3_init 107 = .ok (.getfield 21, 3) := by decide +kernel
theorem dX3_init_110 : decode cX3_init 110 = .ok (.iload_n 1, 1) := by decide +kernel
theorem dX3_init_111 : decode cX3_init 111 = .ok (.aload_n 2, 1) := by decide +kernel
theorem dX3_init_112 : decode cX3_init 112 = .ok (.aastore, 1) := by decide +kernel
theorem dX3_init_113 : decode cX3_init 113 = .ok (.aload_n 0, 1) := by decide +kernel
theorem dX3_init_114 : decode cX3_init 114 = .ok (.getfield 25, 3) := by decide +kernel
theorem dX3_init_117 : decode cX3_init 117 = .ok (.iload_n 1, 1) := by decide +kernel
theorem dX3_init_118 : decode cX3_init 118 = .ok (.aload_n 2, 1) := by decide +kernel
theorem dX3_init_119 : decode cX3_init 119 = .ok (.aastore, 1) := by decide +kernel
theorem dX3_init_120 : decode cX3_init 120 = .ok (.iinc 1 1, 3) := by decide +kernel
theorem dX3_init_123 : decode cX3_init 123 = .ok (.goto (-32), 3) := by decide +kernel
theorem dX3_init_126 : decode cX3_init 126 = .ok (.return_, 1) := by decide +kernel
theorem dX3_addBoard_0 : decode cX3_addBoard 0 = .ok (.iload_n 1, 1) := by decide +kernel
theorem dX3_addBoard_1 : decode cX3_addBoard 1 = .ok (.invokestatic 48, 3) := by decide +kernel
theorem dX3_addBoard_4 : decode cX3_addBoard 4 = .ok (.iload_n 2, 1) := by decide +kernel
theorem dX3_addBoard_5 : decode cX3_addBoard 5 = .ok (.ifCond .lt 10, 3) := by decide +kernel
theorem dX3_addBoard_8 : decode cX3_addBoard 8 = .ok (.iload_n 2, 1) := by decide +kernel
theorem dX3_addBoard_9 : decode cX3_addBoard 9 = .ok (.sipush 200, 3) := by decide +kernel
theorem dX3_addBoard_12 : decode cX3_addBoard 12 = .ok (.if_icmp .le 13, 3) := by decide +kernel
theorem dX3_addBoard_15 : decode cX3_addBoard 15 = .ok (.new 51, 3) := by decide +kernel
theorem dX3_addBoard_18 : decode cX3_addBoard 18 = .ok (.dup, 1) := by decide +kernel
theorem dX3_addBoard_19 : decode cX3_addBoard 19 = .ok (.ldc 53, 2) := by decide +kernel
theorem dX3_addBoard_21 : decode cX3_addBoard 21 = .ok (.invokespecial 55, 3) := by decide +kernel
theorem dX3_addBoard_24 : decode cX3_addBoard 24 = .ok (.athrow, 1) := by decide +kernel
theorem dX3_addBoard_25 : decode cX3_addBoard 25 = .ok (.aload_n 0, 1) := by decide +kernel
theorem dX3_addBoard_26 : decode cX3_addBoard 26 = .ok (.getfield 15, 3) := by decide +kernel
theorem dX3_addBoard_29 : decode cX3_addBoard 29 = .ok (.bipush 6, 2) := by decide +kernel
theorem dX3_addBoard_31 : decode cX3_addBoard 31 = .ok (.if_icmp .lt 13, 3) := by decide +kernel
theorem dX3_addBoard_34 : decode cX3_addBoard 34 = .ok (.new 58, 3) := by decide +kernel
theorem dX3_addBoard_37 : decode cX3_addBoard 37 = .ok (.dup, 1) := by decide +kernel
theorem dX3_addBoard_38 : decode cX3_addBoard 38 = .ok (.ldc 60, 2) := by decide +kernel
theorem dX3_addBoard_40 : decode cX3_addBoard 40 = .ok (.invokespecial 62, 3) := by decide +kernel
theorem dX3_addBoard_43 : decode cX3_addBoard 43 = .ok (.athrow, 1) := by decide +kernel
theorem dX3_addBoard_44 : decode cX3_addBoard 44 = .ok (.aload_n 0, 1) := by decide +kernel
theorem dX3_addBoard_45 : decode cX3_addBoard 45 = .ok (.getfield 11, 3) := by decide +kernel
theorem dX3_addBoard_48 : decode cX3_addBoard 48 = .ok (.aload_n 0, 1) := by decide +kernel
theorem dX3_addBoard_49 : decode cX3_addBoard 49 = .ok (.getfield 15, 3) := by decide +kernel
theorem dX3_addBoard_52 : decode cX3_addBoard 52 = .ok (.aaload, 1) := by decide +kernel
theorem dX3_addBoard_53 : decode cX3_addBoard 53 = .ok (.iload_n 1, 1) := by decide +kernel
theorem dX3_addBoard_54 : decode cX3_addBoard 54 = .ok (.iload_n 2, 1) := by decide +kernel
theorem dX3_addBoard_55 : decode cX3_addBoard 55 = .ok (.invokevirtual 63, 3) := by decide +kernel
theorem dX3_addBoard_58 : decode cX3_addBoard 58 = .ok (.aload_n 0, 1) := by decide +kernel
theorem dX3_addBoard_59 : decode cX3_addBoard 59 = .ok (.dup, 1) := by decide +kernel
theorem dX3_addBoard_60 : decode cX3_addBoard 60 = .ok (.getfield 15, 3) := by decide +kernel
theorem dX3_addBoard_63 : decode cX3_addBoard 63 = .ok (.iconst 1, 1) := by decide +kernel
theorem dX3_addBoard_64 : decode cX3_addBoard 64 = .ok (.iadd, 1) := by decide +kernel
theorem dX3_addBoard_65 : decode cX3_addBoard 65 = .ok (.putfield 15, 3) := by decide +kernel
theorem dX3_addBoard_68 : decode cX3_addBoard 68 = .ok (.aload_n 0, 1) := by decide +kernel
theorem dX3_addBoard_69 : decode cX3_addBoard 69 = .ok (.getfield 15, 3) := by decide +kernel
theorem dX3_addBoard_72 : decode cX3_addBoard 72 = .ok (.iconst 1, 1) := by decide +kernel
theorem dX3_addBoard_73 : decode cX3_addBoard 73 = .ok (.isub, 1) := by decide +kernel
theorem dX3_addBoard_74 : decode cX3_addBoard 74 = .ok (.ireturn, 1) := by decide +kernel
theorem dX3_setSun_0 : decode cX3_setSun 0 = .ok (.iload_n 1, 1) := by decide +kernel
theorem dX3_setSun_1 : decode cX3_setSun 1 = .ok (.ifCond .lt 9, 3) := by decide +kernel
theorem dX3_setSun_4 : decode cX3_setSun 4 = .ok (.iload_n 1, 1) := by decide +kernel
theorem dX3_setSun_5 : decode cX3_setSun 5 = .ok (.bipush 20, 2) := by decide +kernel
theorem dX3_setSun_7 : decode cX3_setSun 7 = .ok (.if_icmp .le 13, 3) := by decide +kernel
theorem dX3_setSun_10 : decode cX3_setSun 10 = .ok (.new 51, 3) := by decide +kernel
theorem dX3_setSun_13 : decode cX3_setSun 13 = .ok (.dup, 1) := by decide +kernel
theorem dX3_setSun_14 : decode cX3_setSun 14 = .ok (.ldc 67, 2) := by decide +kernel
theorem dX3_setSun_16 : decode cX3_setSun 16 = .ok (.invokespecial 55, 3) := by decide +kernel
theorem dX3_setSun_19 : decode cX3_setSun 19 = .ok (.athrow, 1) := by decide +kernel
theorem dX3_setSun_20 : decode cX3_setSun 20 = .ok (.aload_n 0, 1) := by decide +kernel
theorem dX3_setSun_21 : decode cX3_setSun 21 = .ok (.getfield 38, 3) := by decide +kernel
theorem dX3_setSun_24 : decode cX3_setSun 24 = .ok (.istore_n 2, 1) := by decide +kernel
theorem dX3_setSun_25 : decode cX3_setSun 25 = .ok (.aload_n 0, 1) := by decide +kernel
theorem dX3_setSun_26 : decode cX3_setSun 26 = .ok (.iload_n 1, 1) := by decide +kernel
theorem dX3_setSun_27 : decode cX3_setSun 27 = .ok (.putfield 38, 3) := by decide +kernel
theorem dX3_setSun_30 : decode cX3_setSun 30 = .ok (.iload_n 2, 1) := by decide +kernel
theorem dX3_setSun_31 : decode cX3_setSun 31 = .ok (.ireturn, 1) := by decide +kernel
theorem dX3_charge_0 : decode cX3_charge 0 = .ok (.aload_n 0, 1) := by decide +kernel
theorem dX3_charge_1 : decode cX3_charge 1 = .ok (.iload_n 1, 1) := by decide +kernel
theorem dX3_charge_2 : decode cX3_charge 2 = .ok (.invokevirtual 69, 3) := by decide +kernel
theorem dX3_charge_5 : decode cX3_charge 5 = .ok (.getfield 73, 3) := by decide +kernel
theorem dX3_charge_8 : decode cX3_charge 8 = .ok (.ireturn, 1) := by decide +kernel
theorem dX3_cell_0 : decode cX3_cell 0 = .ok (.aload_n 0, 1) := by decide +kernel
theorem dX3_cell_1 : decode cX3_cell 1 = .ok (.iload_n 1, 1) := by decide +kernel
theorem dX3_cell_2 : decode cX3_cell 2 = .ok (.invokevirtual 69, 3) := by decide +kernel
theorem dX3_cell_5 : decode cX3_cell 5 = .ok (.astore 4, 2) := by decide +kernel
theorem dX3_cell_7 : decode cX3_cell 7 = .ok (.aload 4, 2) := by decide +kernel
theorem dX3_cell_9 : decode cX3_cell 9 = .ok (.getfield 76, 3) := by decide +kernel
theorem dX3_cell_12 : decode cX3_cell 12 = .ok (.iload_n 2, 1) := by decide +kernel
theorem dX3_cell_13 : decode cX3_cell 13 = .ok (.iload_n 3, 1) := by decide +kernel
theorem dX3_cell_14 : decode cX3_cell 14 = .ok (.invokestatic 79, 3) := by decide +kernel
theorem dX3_cell_17 : decode cX3_cell 17 = .ok (.invokestatic 83, 3) := by decide +kernel
theorem dX3_cell_20 : decode cX3_cell 20 = .ok (.ireturn, 1) := by decide +kernel
theorem dX3_wear_0 : decode cX3_wear 0 = .ok (.aload_n 0, 1) := by decide +kernel
theorem dX3_wear_1 : decode cX3_wear 1 = .ok (.iload_n 1, 1) := by decide +kernel
theorem dX3_wear_2 : decode cX3_wear 2 = .ok (.invokevirtual 69, 3) := by decide +kernel
theorem dX3_wear_5 : decode cX3_wear 5 = .ok (.astore 4, 2) := by decide +kernel
theorem dX3_wear_7 : decode cX3_wear 7 = .ok (.aload 4, 2) := by decide +kernel
theorem dX3_wear_9 : decode cX3_wear 9 = .ok (.iload_n 2, 1) := by decide +kernel
theorem dX3_wear_10 : decode cX3_wear 10 = .ok (.iload_n 3, 1) := by decide +kernel
theorem dX3_wear_11 : decode cX3_wear 11 = .ok (.invokestatic 79, 3) := by decide +kernel
theorem dX3_wear_14 : decode cX3_wear 14 = .ok (.invokevirtual 86, 3) := by decide +kernel
theorem dX3_wear_17 : decode cX3_wear 17 = .ok (.ireturn, 1) := by decide +kernel
theorem dX3_shows_0 : decode cX3_shows 0 = .ok (.aload_n 0, 1) := by decide +kernel
theorem dX3_shows_1 : decode cX3_shows 1 = .ok (.iload_n 1, 1) := by decide +kernel
theorem dX3_shows_2 : decode cX3_shows 2 = .ok (.invokevirtual 69, 3) := by decide +kernel
theorem dX3_shows_5 : decode cX3_shows 5 = .ok (.getfield 90, 3) := by decide +kernel
theorem dX3_shows_8 : decode cX3_shows 8 = .ok (.astore_n 2, 1) := by decide +kernel
theorem dX3_shows_9 : decode cX3_shows 9 = .ok (.aload_n 2, 1) := by decide +kernel
theorem dX3_shows_10 : decode cX3_shows 10 = .ok (.ifnonnull 7, 3) := by decide +kernel
theorem dX3_shows_13 : decode cX3_shows 13 = .ok (.iconst (-1), 1) := by decide +kernel
theorem dX3_shows_14 : decode cX3_shows 14 = .ok (.goto 7, 3) := by decide +kernel
theorem dX3_shows_17 : decode cX3_shows 17 = .ok (.aload_n 2, 1) := by decide +kernel
theorem dX3_shows_18 : decode cX3_shows 18 = .ok (.getfield 94, 3) := by decide +kernel
theorem dX3_shows_21 : decode cX3_shows 21 = .ok (.ireturn, 1) := by decide +kernel
theorem dX3_shift_0 : decode cX3_shift 0 = .ok (.aload_n 0, 1) := by decide +kernel
theorem dX3_shift_1 : decode cX3_shift 1 = .ok (.iload_n 1, 1) := by decide +kernel
theorem dX3_shift_2 : decode cX3_shift 2 = .ok (.invokevirtual 69, 3) := by decide +kernel
theorem dX3_shift_5 : decode cX3_shift 5 = .ok (.getfield 97, 3) := by decide +kernel
theorem dX3_shift_8 : decode cX3_shift 8 = .ok (.ireturn, 1) := by decide +kernel
theorem dX3_sleeps_0 : decode cX3_sleeps 0 = .ok (.aload_n 0, 1) := by decide +kernel
theorem dX3_sleeps_1 : decode cX3_sleeps 1 = .ok (.iload_n 1, 1) := by decide +kernel
theorem dX3_sleeps_2 : decode cX3_sleeps 2 = .ok (.invokevirtual 69, 3) := by decide +kernel
theorem dX3_sleeps_5 : decode cX3_sleeps 5 = .ok (.getfield 100, 3) := by decide +kernel
theorem dX3_sleeps_8 : decode cX3_sleeps 8 = .ok (.ireturn, 1) := by decide +kernel
theorem dX3_post_0 : decode cX3_post 0 = .ok (.iload_n 1, 1) := by decide +kernel
theorem dX3_post_1 : decode cX3_post 1 = .ok (.ifCond .lt 9, 3) := by decide +kernel
theorem dX3_post_4 : decode cX3_post 4 = .ok (.iload_n 1, 1) := by decide +kernel
theorem dX3_post_5 : decode cX3_post 5 = .ok (.bipush 9, 2) := by decide +kernel
theorem dX3_post_7 : decode cX3_post 7 = .ok (.if_icmp .le 13, 3) := by decide +kernel
theorem dX3_post_10 : decode cX3_post 10 = .ok (.new 51, 3) := by decide +kernel
theorem dX3_post_13 : decode cX3_post 13 = .ok (.dup, 1) := by decide +kernel
theorem dX3_post_14 : decode cX3_post 14 = .ok (.ldc 104, 2) := by decide +kernel
theorem dX3_post_16 : decode cX3_post 16 = .ok (.invokespecial 55, 3) := by decide +kernel
theorem dX3_post_19 : decode cX3_post 19 = .ok (.athrow, 1) := by decide +kernel
theorem dX3_post_20 : decode cX3_post 20 = .ok (.iload_n 2, 1) := by decide +kernel
theorem dX3_post_21 : decode cX3_post 21 = .ok (.ifCond .ne 13, 3) := by decide +kernel
theorem dX3_post_24 : decode cX3_post 24 = .ok (.new 51, 3) := by decide +kernel
theorem dX3_post_27 : decode cX3_post 27 = .ok (.dup, 1) := by decide +kernel
theorem dX3_post_28 : decode cX3_post 28 = .ok (.ldc 106, 2) := by decide +kernel
theorem dX3_post_30 : decode cX3_post 30 = .ok (.invokespecial 55, 3) := by decide +kernel
theorem dX3_post_33 : decode cX3_post 33 = .ok (.athrow, 1) := by decide +kernel
theorem dX3_post_34 : decode cX3_post 34 = .ok (.iload_n 3, 1) := by decide +kernel
theorem dX3_post_35 : decode cX3_post 35 = .ok (.ifCond .lt 17, 3) := by decide +kernel
theorem dX3_post_38 : decode cX3_post 38 = .ok (.iload_n 3, 1) := by decide +kernel
theorem dX3_post_39 : decode cX3_post 39 = .ok (.iload 4, 2) := by decide +kernel
theorem dX3_post_41 : decode cX3_post 41 = .ok (.if_icmp .ge 11, 3) := by decide +kernel
theorem dX3_post_44 : decode cX3_post 44 = .ok (.iload 4, 2) := by decide +kernel
theorem dX3_post_46 : decode cX3_post 46 = .ok (.sipush 2000, 3) := by decide +kernel
theorem dX3_post_49 : decode cX3_post 49 = .ok (.if_icmp .le 13, 3) := by decide +kernel
theorem dX3_post_52 : decode cX3_post 52 = .ok (.new 51, 3) := by decide +kernel
theorem dX3_post_55 : decode cX3_post 55 = .ok (.dup, 1) := by decide +kernel
theorem dX3_post_56 : decode cX3_post 56 = .ok (.ldc 108, 2) := by decide +kernel
theorem dX3_post_58 : decode cX3_post 58 = .ok (.invokespecial 55, 3) := by decide +kernel
theorem dX3_post_61 : decode cX3_post 61 = .ok (.athrow, 1) := by decide +kernel
theorem dX3_post_62 : decode cX3_post 62 = .ok (.aload_n 0, 1) := by decide +kernel
theorem dX3_post_63 : decode cX3_post 63 = .ok (.iload_n 1, 1) := by decide +kernel
theorem dX3_post_64 : decode cX3_post 64 = .ok (.iload_n 2, 1) := by decide +kernel
theorem dX3_post_65 : decode cX3_post 65 = .ok (.iload_n 3, 1) := by decide +kernel
theorem dX3_post_66 : decode cX3_post 66 = .ok (.iload 4, 2) := by decide +kernel
theorem dX3_post_68 : decode cX3_post 68 = .ok (.invokevirtual 110, 3) := by decide +kernel
theorem dX3_post_71 : decode cX3_post 71 = .ok (.getfield 94, 3) := by decide +kernel
theorem dX3_post_74 : decode cX3_post 74 = .ok (.ireturn, 1) := by decide +kernel
theorem dX3_queue_0 : decode cX3_queue 0 = .ok (.aload_n 0, 1) := by decide +kernel
theorem dX3_queue_1 : decode cX3_queue 1 = .ok (.iload_n 1, 1) := by decide +kernel
theorem dX3_queue_2 : decode cX3_queue 2 = .ok (.invokevirtual 114, 3) := by decide +kernel
theorem dX3_queue_5 : decode cX3_queue 5 = .ok (.astore_n 3, 1) := by decide +kernel
theorem dX3_queue_6 : decode cX3_queue 6 = .ok (.iload_n 2, 1) := by decide +kernel
theorem dX3_queue_7 : decode cX3_queue 7 = .ok (.invokestatic 48, 3) := by decide +kernel
theorem dX3_queue_10 : decode cX3_queue 10 = .ok (.aload_n 3, 1) := by decide +kernel
theorem dX3_queue_11 : decode cX3_queue 11 = .ok (.getfield 118, 3) := by decide +kernel
theorem dX3_queue_14 : decode cX3_queue 14 = .ok (.ifCond .ne 10, 3) := by decide +kernel
theorem dX3_queue_17 : decode cX3_queue 17 = .ok (.aload_n 3, 1) := by decide +kernel
theorem dX3_queue_18 : decode cX3_queue 18 = .ok (.getfield 121, 3) := by decide +kernel
theorem dX3_queue_21 : decode cX3_queue 21 = .ok (.ifCond .eq 13, 3) := by decide +kernel
theorem dX3_queue_24 : decode cX3_queue 24 = .ok (.new 124, 3) := by decide +kernel
theorem dX3_queue_27 : decode cX3_queue 27 = .ok (.dup, 1) := by decide +kernel
theorem dX3_queue_28 : decode cX3_queue 28 = .ok (.ldc 126, 2) := by decide +kernel
theorem dX3_queue_30 : decode cX3_queue 30 = .ok (.invokespecial 128, 3) := by decide +kernel
theorem dX3_queue_33 : decode cX3_queue 33 = .ok (.athrow, 1) := by decide +kernel
theorem dX3_queue_34 : decode cX3_queue 34 = .ok (.aload_n 3, 1) := by decide +kernel
theorem dX3_queue_35 : decode cX3_queue 35 = .ok (.iload_n 2, 1) := by decide +kernel
theorem dX3_queue_36 : decode cX3_queue 36 = .ok (.aload_n 0, 1) := by decide +kernel
theorem dX3_queue_37 : decode cX3_queue 37 = .ok (.getfield 41, 3) := by decide +kernel
theorem dX3_queue_40 : decode cX3_queue 40 = .ok (.invokevirtual 129, 3) := by decide +kernel
theorem dX3_queue_43 : decode cX3_queue 43 = .ok (.istore 4, 2) := by decide +kernel
theorem dX3_queue_45 : decode cX3_queue 45 = .ok (.aload_n 3, 1) := by decide +kernel
theorem dX3_queue_46 : decode cX3_queue 46 = .ok (.iload_n 2, 1) := by decide +kernel
theorem dX3_queue_47 : decode cX3_queue 47 = .ok (.invokevirtual 133, 3) := by decide +kernel
theorem dX3_queue_50 : decode cX3_queue 50 = .ok (.iload 4, 2) := by decide +kernel
theorem dX3_queue_52 : decode cX3_queue 52 = .ok (.ifCond .ne 7, 3) := by decide +kernel
theorem dX3_queue_55 : decode cX3_queue 55 = .ok (.iconst 1, 1) := by decide +kernel
theorem dX3_queue_56 : decode cX3_queue 56 = .ok (.goto 4, 3) := by decide +kernel
theorem dX3_queue_59 : decode cX3_queue 59 = .ok (.iconst 0, 1) := by decide +kernel
theorem dX3_queue_60 : decode cX3_queue 60 = .ok (.ireturn, 1) := by decide +kernel
theorem dX3_takeBack_0 : decode cX3_takeBack 0 = .ok (.aload_n 0, 1) := by decide +kernel
theorem dX3_takeBack_1 : decode cX3_takeBack 1 = .ok (.iload_n 1, 1) := by decide +kernel
theorem dX3_takeBack_2 : decode cX3_takeBack 2 = .ok (.invokevirtual 114, 3) := by decide +kernel
theorem dX3_takeBack_5 : decode cX3_takeBack 5 = .ok (.astore_n 3, 1) := by decide +kernel
theorem dX3_takeBack_6 : decode cX3_takeBack 6 = .ok (.iload_n 2, 1) := by decide +kernel
theorem dX3_takeBack_7 : decode cX3_takeBack 7 = .ok (.aload_n 0, 1) := by decide +kernel
theorem dX3_takeBack_8 : decode cX3_takeBack 8 = .ok (.getfield 41, 3) := by decide +kernel
theorem dX3_takeBack_11 : decode cX3_takeBack 11 = .ok (.if_icmp .le 11, 3) := by decide +kernel
theorem dX3_takeBack_14 : decode cX3_takeBack 14 = .ok (.iload_n 2, 1) := by decide +kernel
theorem dX3_takeBack_15 : decode cX3_takeBack 15 = .ok (.aload_n 3, 1) := by decide +kernel
theorem dX3_takeBack_16 : decode cX3_takeBack 16 = .ok (.getfield 136, 3) := by decide +kernel
theorem dX3_takeBack_19 : decode cX3_takeBack 19 = .ok (.if_icmp .le 13, 3) := by decide +kernel
theorem dX3_takeBack_22 : decode cX3_takeBack 22 = .ok (.new 51, 3) := by decide +kernel
theorem dX3_takeBack_25 : decode cX3_takeBack 25 = .ok (.dup, 1) := by decide +kernel
theorem dX3_takeBack_26 : decode cX3_takeBack 26 = .ok (.ldc 139, 2) := by decide +kernel
theorem dX3_takeBack_28 : decode cX3_takeBack 28 = .ok (.invokespecial 55, 3) := by decide +kernel
theorem dX3_takeBack_31 : decode cX3_takeBack 31 = .ok (.athrow, 1) := by decide +kernel
theorem dX3_takeBack_32 : decode cX3_takeBack 32 = .ok (.aload_n 3, 1) := by decide +kernel
theorem dX3_takeBack_33 : decode cX3_takeBack 33 = .ok (.getfield 118, 3) := by decide +kernel
theorem dX3_takeBack_36 : decode cX3_takeBack 36 = .ok (.ifCond .eq 13, 3) := by decide +kernel
theorem dX3_takeBack_39 : decode cX3_takeBack 39 = .ok (.new 124, 3) := by decide +kernel
theorem dX3_takeBack_42 : decode cX3_takeBack 42 = .ok (.dup, 1) := by decide +kernel
theorem dX3_takeBack_43 : decode cX3_takeBack 43 = .ok (.ldc 141, 2) := by decide +kernel
theorem dX3_takeBack_45 : decode cX3_takeBack 45 = .ok (.invokespecial 128, 3) := by decide +kernel
theorem dX3_takeBack_48 : decode cX3_takeBack 48 = .ok (.athrow, 1) := by decide +kernel
theorem dX3_takeBack_49 : decode cX3_takeBack 49 = .ok (.aload_n 3, 1) := by decide +kernel
theorem dX3_takeBack_50 : decode cX3_takeBack 50 = .ok (.iconst 1, 1) := by decide +kernel
theorem dX3_takeBack_51 : decode cX3_takeBack 51 = .ok (.putfield 121, 3) := by decide +kernel
theorem dX3_takeBack_54 : decode cX3_takeBack 54 = .ok (.aload_n 3, 1) := by decide +kernel
theorem dX3_takeBack_55 : decode cX3_takeBack 55 = .ok (.iload_n 2, 1) := by decide +kernel
theorem dX3_takeBack_56 : decode cX3_takeBack 56 = .ok (.putfield 136, 3) := by decide +kernel
theorem dX3_takeBack_59 : decode cX3_takeBack 59 = .ok (.aload_n 0, 1) := by decide +kernel
theorem dX3_takeBack_60 : decode cX3_takeBack 60 = .ok (.aload_n 3, 1) := by decide +kernel
theorem dX3_takeBack_61 : decode cX3_takeBack 61 = .ok (.invokevirtual 143, 3) := by decide +kernel
theorem dX3_takeBack_64 : decode cX3_takeBack 64 = .ok (.ireturn, 1) := by decide +kernel
theorem dX3_mend_0 : decode cX3_mend 0 = .ok (.aload_n 0, 1) := by decide +kernel
theorem dX3_mend_1 : decode cX3_mend 1 = .ok (.iload_n 1, 1) := by decide +kernel
theorem dX3_mend_2 : decode cX3_mend 2 = .ok (.invokevirtual 114, 3) := by decide +kernel
theorem dX3_mend_5 : decode cX3_mend 5 = .ok (.astore_n 3, 1) := by decide +kernel
theorem dX3_mend_6 : decode cX3_mend 6 = .ok (.iload_n 2, 1) := by decide +kernel
theorem dX3_mend_7 : decode cX3_mend 7 = .ok (.ifCond .eq 11, 3) := by decide +kernel
theorem dX3_mend_10 : decode cX3_mend 10 = .ok (.iload_n 2, 1) := by decide +kernel
theorem dX3_mend_11 : decode cX3_mend 11 = .ok (.aload_n 3, 1) := by decide +kernel
theorem dX3_mend_12 : decode cX3_mend 12 = .ok (.getfield 147, 3) := by decide +kernel
theorem dX3_mend_15 : decode cX3_mend 15 = .ok (.if_icmp .ne 13, 3) := by decide +kernel
theorem dX3_mend_18 : decode cX3_mend 18 = .ok (.new 51, 3) := by decide +kernel
theorem dX3_mend_21 : decode cX3_mend 21 = .ok (.dup, 1) := by decide +kernel
theorem dX3_mend_22 : decode cX3_mend 22 = .ok (.ldc 150, 2) := by decide +kernel
theorem dX3_mend_24 : decode cX3_mend 24 = .ok (.invokespecial 55, 3) := by decide +kernel
theorem dX3_mend_27 : decode cX3_mend 27 = .ok (.athrow, 1) := by decide +kernel
theorem dX3_mend_28 : decode cX3_mend 28 = .ok (.aload_n 3, 1) := by decide +kernel
theorem dX3_mend_29 : decode cX3_mend 29 = .ok (.getfield 118, 3) := by decide +kernel
theorem dX3_mend_32 : decode cX3_mend 32 = .ok (.ifCond .ne 14, 3) := by decide +kernel
theorem dX3_mend_35 : decode cX3_mend 35 = .ok (.aload_n 3, 1) := by decide +kernel
theorem dX3_mend_36 : decode cX3_mend 36 = .ok (.aload_n 0, 1) := by decide +kernel
theorem dX3_mend_37 : decode cX3_mend 37 = .ok (.getfield 41, 3) := by decide +kernel
theorem dX3_mend_40 : decode cX3_mend 40 = .ok (.invokevirtual 152, 3) := by decide +kernel
theorem dX3_mend_43 : decode cX3_mend 43 = .ok (.ifCond .eq 13, 3) := by decide +kernel
theorem dX3_mend_46 : decode cX3_mend 46 = .ok (.new 124, 3) := by decide +kernel
theorem dX3_mend_49 : decode cX3_mend 49 = .ok (.dup, 1) := by decide +kernel
theorem dX3_mend_50 : decode cX3_mend 50 = .ok (.ldc 156, 2) := by decide +kernel
theorem dX3_mend_52 : decode cX3_mend 52 = .ok (.invokespecial 128, 3) := by decide +kernel
theorem dX3_mend_55 : decode cX3_mend 55 = .ok (.athrow, 1) := by decide +kernel
theorem dX3_mend_56 : decode cX3_mend 56 = .ok (.aload_n 3, 1) := by decide +kernel
theorem dX3_mend_57 : decode cX3_mend 57 = .ok (.getfield 158, 3) := by decide +kernel
theorem dX3_mend_60 : decode cX3_mend 60 = .ok (.iconst 1, 1) := by decide +kernel
theorem dX3_mend_61 : decode cX3_mend 61 = .ok (.iadd, 1) := by decide +kernel
theorem dX3_mend_62 : decode cX3_mend 62 = .ok (.bipush 10, 2) := by decide +kernel
theorem dX3_mend_64 : decode cX3_mend 64 = .ok (.invokestatic 161, 3) := by decide +kernel
theorem dX3_mend_67 : decode cX3_mend 67 = .ok (.istore 4, 2) := by decide +kernel
theorem dX3_mend_69 : decode cX3_mend 69 = .ok (.aload_n 0, 1) := by decide +kernel
theorem dX3_mend_70 : decode cX3_mend 70 = .ok (.iload 4, 2) := by decide +kernel
theorem dX3_mend_72 : decode cX3_mend 72 = .ok (.iload_n 2, 1) := by decide +kernel
theorem dX3_mend_73 : decode cX3_mend 73 = .ok (.aload_n 0, 1) := by decide +kernel
theorem dX3_mend_74 : decode cX3_mend 74 = .ok (.getfield 41, 3) := by decide +kernel
theorem dX3_mend_77 : decode cX3_mend 77 = .ok (.aload_n 3, 1) := by decide +kernel
theorem dX3_mend_78 : decode cX3_mend 78 = .ok (.getfield 166, 3) := by decide +kernel
theorem dX3_mend_81 : decode cX3_mend 81 = .ok (.invokestatic 169, 3) := by decide +kernel
theorem dX3_mend_84 : decode cX3_mend 84 = .ok (.aload_n 3, 1) := by decide +kernel
theorem dX3_mend_85 : decode cX3_mend 85 = .ok (.getfield 136, 3) := by decide +kernel
theorem dX3_mend_88 : decode cX3_mend 88 = .ok (.invokevirtual 110, 3) := by decide +kernel
theorem dX3_mend_91 : decode cX3_mend 91 = .ok (.astore 5, 2) := by decide +kernel
theorem dX3_mend_93 : decode cX3_mend 93 = .ok (.aload_n 0, 1) := by decide +kernel
theorem dX3_mend_94 : decode cX3_mend 94 = .ok (.aload 5, 2) := by decide +kernel
theorem dX3_mend_96 : decode cX3_mend 96 = .ok (.aload_n 3, 1) := by decide +kernel
theorem dX3_mend_97 : decode cX3_mend 97 = .ok (.invokevirtual 172, 3) := by decide +kernel
theorem dX3_mend_100 : decode cX3_mend 100 = .ok (.aload_n 3, 1) := by decide +kernel
theorem dX3_mend_101 : decode cX3_mend 101 = .ok (.iconst 1, 1) := by decide +kernel
theorem dX3_mend_102 : decode cX3_mend 102 = .ok (.putfield 118, 3) := by decide +kernel
theorem dX3_mend_105 : decode cX3_mend 105 = .ok (.aload_n 3, 1) := by decide +kernel
theorem dX3_mend_106 : decode cX3_mend 106 = .ok (.aload_n 0, 1) := by decide +kernel
theorem dX3_mend_107 : decode cX3_mend 107 = .ok (.getfield 41, 3) := by decide +kernel
theorem dX3_mend_110 : decode cX3_mend 110 = .ok (.iconst 1, 1) := by decide +kernel
theorem dX3_mend_111 : decode cX3_mend 111 = .ok (.iadd, 1) := by decide +kernel
theorem dX3_mend_112 : decode cX3_mend 112 = .ok (.putfield 136, 3) := by decide +kernel
theorem dX3_mend_115 : decode cX3_mend 115 = .ok (.aload 5, 2) := by decide +kernel
theorem dX3_mend_117 : decode cX3_mend 117 = .ok (.getfield 94, 3) := by decide +kernel
theorem dX3_mend_120 : decode cX3_mend 120 = .ok (.ireturn, 1) := by decide +kernel
theorem dX3_deny_0 : decode cX3_deny 0 = .ok (.iload_n 2, 1) := by decide +kernel
theorem dX3_deny_1 : decode cX3_deny 1 = .ok (.invokestatic 48, 3) := by decide +kernel
theorem dX3_deny_4 : decode cX3_deny 4 = .ok (.iload_n 1, 1) := by decide +kernel
theorem dX3_deny_5 : decode cX3_deny 5 = .ok (.ifCond .eq 8, 3) := by decide +kernel
theorem dX3_deny_8 : decode cX3_deny 8 = .ok (.iload_n 1, 1) := by decide +kernel
theorem dX3_deny_9 : decode cX3_deny 9 = .ok (.iconst (-1), 1) := by decide +kernel
theorem dX3_deny_10 : decode cX3_deny 10 = .ok (.if_icmp .ne 13, 3) := by decide +kernel
theorem dX3_deny_13 : decode cX3_deny 13 = .ok (.new 51, 3) := by decide +kernel
theorem dX3_deny_16 : decode cX3_deny 16 = .ok (.dup, 1) := by decide +kernel
theorem dX3_deny_17 : decode cX3_deny 17 = .ok (.ldc 176, 2) := by decide +kernel
theorem dX3_deny_19 : decode cX3_deny 19 = .ok (.invokespecial 55, 3) := by decide +kernel
theorem dX3_deny_22 : decode cX3_deny 22 = .ok (.athrow, 1) := by decide +kernel
theorem dX3_deny_23 : decode cX3_deny 23 = .ok (.iload_n 3, 1) := by decide +kernel
theorem dX3_deny_24 : decode cX3_deny 24 = .ok (.aload_n 0, 1) := by decide +kernel
theorem dX3_deny_25 : decode cX3_deny 25 = .ok (.getfield 41, 3) := by decide +kernel
theorem dX3_deny_28 : decode cX3_deny 28 = .ok (.if_icmp .le 10, 3) := by decide +kernel
theorem dX3_deny_31 : decode cX3_deny 31 = .ok (.iload_n 3, 1) := by decide +kernel
theorem dX3_deny_32 : decode cX3_deny 32 = .ok (.sipush 2000, 3) := by decide +kernel
theorem dX3_deny_35 : decode cX3_deny 35 = .ok (.if_icmp .le 13, 3) := by decide +kernel
theorem dX3_deny_38 : decode cX3_deny 38 = .ok (.new 51, 3) := by decide +kernel
theorem dX3_deny_41 : decode cX3_deny 41 = .ok (.dup, 1) := by decide +kernel
theorem dX3_deny_42 : decode cX3_deny 42 = .ok (.ldc 178, 2) := by decide +kernel
theorem dX3_deny_44 : decode cX3_deny 44 = .ok (.invokespecial 55, 3) := by decide +kernel
theorem dX3_deny_47 : decode cX3_deny 47 = .ok (.athrow, 1) := by decide +kernel
theorem dX3_deny_48 : decode cX3_deny 48 = .ok (.aload_n 0, 1) := by decide +kernel
theorem dX3_deny_49 : decode cX3_deny 49 = .ok (.bipush 10, 2) := by decide +kernel
theorem dX3_deny_51 : decode cX3_deny 51 = .ok (.iload_n 1, 1) := by decide +kernel
theorem dX3_deny_52 : decode cX3_deny 52 = .ok (.iconst (-1), 1) := by decide +kernel
theorem dX3_deny_53 : decode cX3_deny 53 = .ok (.ixor, 1) := by decide +kernel
theorem dX3_deny_54 : decode cX3_deny 54 = .ok (.aload_n 0, 1) := by decide +kernel
theorem dX3_deny_55 : decode cX3_deny 55 = .ok (.getfield 41, 3) := by decide +kernel
theorem dX3_deny_58 : decode cX3_deny 58 = .ok (.iload_n 3, 1) := by decide +kernel
theorem dX3_deny_59 : decode cX3_deny 59 = .ok (.invokevirtual 110, 3) := by decide +kernel
theorem dX3_deny_62 : decode cX3_deny 62 = .ok (.astore 4, 2) := by decide +kernel
theorem dX3_deny_64 : decode cX3_deny 64 = .ok (.aload 4, 2) := by decide +kernel
theorem dX3_deny_66 : decode cX3_deny 66 = .ok (.iload_n 2, 1) := by decide +kernel
theorem dX3_deny_67 : decode cX3_deny 67 = .ok (.invokevirtual 133, 3) := by decide +kernel
theorem dX3_deny_70 : decode cX3_deny 70 = .ok (.aload 4, 2) := by decide +kernel
theorem dX3_deny_72 : decode cX3_deny 72 = .ok (.getfield 94, 3) := by decide +kernel
theorem dX3_deny_75 : decode cX3_deny 75 = .ok (.ireturn, 1) := by decide +kernel
theorem dX3_queued_0 : decode cX3_queued 0 = .ok (.iload_n 1, 1) := by decide +kernel
theorem dX3_queued_1 : decode cX3_queued 1 = .ok (.invokestatic 48, 3) := by decide +kernel
theorem dX3_queued_4 : decode cX3_queued 4 = .ok (.iconst 0, 1) := by decide +kernel
theorem dX3_queued_5 : decode cX3_queued 5 = .ok (.istore_n 2, 1) := by decide +kernel
theorem dX3_queued_6 : decode cX3_queued 6 = .ok (.iconst 0, 1) := by decide +kernel
theorem dX3_queued_7 : decode cX3_queued 7 = .ok (.istore_n 3, 1) := by decide +kernel
theorem dX3_queued_8 : decode cX3_queued 8 = .ok (.iload_n 3, 1) := by decide +kernel
theorem dX3_queued_9 : decode cX3_queued 9 = .ok (.aload_n 0, 1) := by decide +kernel
theorem dX3_queued_10 : decode cX3_queued 10 = .ok (.getfield 28, 3) := by decide +kernel
theorem dX3_queued_13 : decode cX3_queued 13 = .ok (.if_icmp .ge 29, 3) := by decide +kernel
theorem dX3_queued_16 : decode cX3_queued 16 = .ok (.aload_n 0, 1) := by decide +kernel
theorem dX3_queued_17 : decode cX3_queued 17 = .ok (.getfield 21, 3) := by decide +kernel
theorem dX3_queued_20 : decode cX3_queued 20 = .ok (.iload_n 3, 1) := by decide +kernel
theorem dX3_queued_21 : decode cX3_queued 21 = .ok (.aaload, 1) := by decide +kernel
theorem dX3_queued_22 : decode cX3_queued 22 = .ok (.iload_n 1, 1) := by decide +kernel
theorem dX3_queued_23 : decode cX3_queued 23 = .ok (.aload_n 0, 1) := by decide +kernel
theorem dX3_queued_24 : decode cX3_queued 24 = .ok (.getfield 41, 3) := by decide +kernel
theorem dX3_queued_27 : decode cX3_queued 27 = .ok (.invokevirtual 129, 3) := by decide +kernel
theorem dX3_queued_30 : decode cX3_queued 30 = .ok (.ifCond .eq 6, 3) := by decide +kernel
theorem dX3_queued_33 : decode cX3_queued 33 = .ok (.iinc 2 1, 3) := by decide +kernel
theorem dX3_queued_36 : decode cX3_queued 36 = .ok (.iinc 3 1, 3) := by decide +kernel
theorem dX3_queued_39 : decode cX3_queued 39 = .ok (.goto (-31), 3) := by decide +kernel
theorem dX3_queued_42 : decode cX3_queued 42 = .ok (.iload_n 2, 1) := by decide +kernel
theorem dX3_queued_43 : decode cX3_queued 43 = .ok (.ireturn, 1) := by decide +kernel
theorem dX3_queuedAt_0 : decode cX3_queuedAt 0 = .ok (.iload_n 1, 1) := by decide +kernel
theorem dX3_queuedAt_1 : decode cX3_queuedAt 1 = .ok (.invokestatic 48, 3) := by decide +kernel
theorem dX3_queuedAt_4 : decode cX3_queuedAt 4 = .ok (.iconst 0, 1) := by decide +kernel
theorem dX3_queuedAt_5 : decode cX3_queuedAt 5 = .ok (.istore_n 3, 1) := by decide +kernel
theorem dX3_queuedAt_6 : decode cX3_queuedAt 6 = .ok (.iconst 0, 1) := by decide +kernel
theorem dX3_queuedAt_7 : decode cX3_queuedAt 7 = .ok (.istore 4, 2) := by decide +kernel
theorem dX3_queuedAt_9 : decode cX3_queuedAt 9 = .ok (.iload 4, 2) := by decide +kernel
theorem dX3_queuedAt_11 : decode cX3_queuedAt 11 = .ok (.aload_n 0, 1) := by decide +kernel
theorem dX3_queuedAt_12 : decode cX3_queuedAt 12 = .ok (.getfield 28, 3) := by decide +kernel
theorem dX3_queuedAt_15 : decode cX3_queuedAt 15 = .ok (.if_icmp .ge 45, 3) := by decide +kernel
theorem dX3_queuedAt_18 : decode cX3_queuedAt 18 = .ok (.aload_n 0, 1) := by decide +kernel
theorem dX3_queuedAt_19 : decode cX3_queuedAt 19 = .ok (.getfield 25, 3) := by decide +kernel
theorem dX3_queuedAt_22 : decode cX3_queuedAt 22 = .ok (.iload 4, 2) := by decide +kernel
theorem dX3_queuedAt_24 : decode cX3_queuedAt 24 = .ok (.aaload, 1) := by decide +kernel
theorem dX3_queuedAt_25 : decode cX3_queuedAt 25 = .ok (.astore 5, 2) := by decide +kernel
theorem dX3_queuedAt_27 : decode cX3_queuedAt 27 = .ok (.aload 5, 2) := by decide +kernel
theorem dX3_queuedAt_29 : decode cX3_queuedAt 29 = .ok (.iload_n 1, 1) := by decide +kernel
theorem dX3_queuedAt_30 : decode cX3_queuedAt 30 = .ok (.aload_n 0, 1) := by decide +kernel
theorem dX3_queuedAt_31 : decode cX3_queuedAt 31 = .ok (.getfield 41, 3) := by decide +kernel
theorem dX3_queuedAt_34 : decode cX3_queuedAt 34 = .ok (.invokevirtual 129, 3) := by decide +kernel
theorem dX3_queuedAt_37 : decode cX3_queuedAt 37 = .ok (.ifCond .eq 17, 3) := by decide +kernel
theorem dX3_queuedAt_40 : decode cX3_queuedAt 40 = .ok (.iload_n 3, 1) := by decide +kernel
theorem dX3_queuedAt_41 : decode cX3_queuedAt 41 = .ok (.iload_n 2, 1) := by decide +kernel
theorem dX3_queuedAt_42 : decode cX3_queuedAt 42 = .ok (.if_icmp .ne 9, 3) := by decide +kernel
theorem dX3_queuedAt_45 : decode cX3_queuedAt 45 = .ok (.aload 5, 2) := by decide +kernel
theorem dX3_queuedAt_47 : decode cX3_queuedAt 47 = .ok (.getfield 94, 3) := by decide +kernel
theorem dX3_queuedAt_50 : decode cX3_queuedAt 50 = .ok (.ireturn, 1) := by decide +kernel
theorem dX3_queuedAt_51 : decode cX3_queuedAt 51 = .ok (.iinc 3 1, 3) := by decide +kernel
theorem dX3_queuedAt_54 : decode cX3_queuedAt 54 = .ok (.iinc 4 1, 3) := by decide +kernel
theorem dX3_queuedAt_57 : decode cX3_queuedAt 57 = .ok (.goto (-48), 3) := by decide +kernel
theorem dX3_queuedAt_60 : decode cX3_queuedAt 60 = .ok (.new 180, 3) := by decide +kernel
theorem dX3_queuedAt_63 : decode cX3_queuedAt 63 = .ok (.dup, 1) := by decide +kernel
theorem dX3_queuedAt_64 : decode cX3_queuedAt 64 = .ok (.ldc 182, 2) := by decide +kernel
theorem dX3_queuedAt_66 : decode cX3_queuedAt 66 = .ok (.invokespecial 184, 3) := by decide +kernel
theorem dX3_queuedAt_69 : decode cX3_queuedAt 69 = .ok (.athrow, 1) := by decide +kernel
theorem dX3_isDue_0 : decode cX3_isDue 0 = .ok (.aload_n 0, 1) := by decide +kernel
theorem dX3_isDue_1 : decode cX3_isDue 1 = .ok (.iload_n 1, 1) := by decide +kernel
theorem dX3_isDue_2 : decode cX3_isDue 2 = .ok (.invokevirtual 114, 3) := by decide +kernel
theorem dX3_isDue_5 : decode cX3_isDue 5 = .ok (.aload_n 0, 1) := by decide +kernel
theorem dX3_isDue_6 : decode cX3_isDue 6 = .ok (.getfield 41, 3) := by decide +kernel
theorem dX3_isDue_9 : decode cX3_isDue 9 = .ok (.invokevirtual 185, 3) := by decide +kernel
theorem dX3_isDue_12 : decode cX3_isDue 12 = .ok (.ireturn, 1) := by decide +kernel
theorem dX3_pass_0 : decode cX3_pass 0 = .ok (.aload_n 0, 1) := by decide +kernel
theorem dX3_pass_1 : decode cX3_pass 1 = .ok (.iload_n 1, 1) := by decide +kernel
theorem dX3_pass_2 : decode cX3_pass 2 = .ok (.invokevirtual 69, 3) := by decide +kernel
theorem dX3_pass_5 : decode cX3_pass 5 = .ok (.getfield 90, 3) := by decide +kernel
theorem dX3_pass_8 : decode cX3_pass 8 = .ok (.astore_n 3, 1) := by decide +kernel
theorem dX3_pass_9 : decode cX3_pass 9 = .ok (.iload_n 2, 1) := by decide +kernel
theorem dX3_pass_10 : decode cX3_pass 10 = .ok (.iconst 1, 1) := by decide +kernel
theorem dX3_pass_11 : decode cX3_pass 11 = .ok (.if_icmp .lt 10, 3) := by decide +kernel
theorem dX3_pass_14 : decode cX3_pass 14 = .ok (.iload_n 2, 1) := by decide +kernel
theorem dX3_pass_15 : decode cX3_pass 15 = .ok (.sipush 999, 3) := by decide +kernel
theorem dX3_pass_18 : decode cX3_pass 18 = .ok (.if_icmp .le 13, 3) := by decide +kernel
theorem dX3_pass_21 : decode cX3_pass 21 = .ok (.new 51, 3) := by decide +kernel
theorem dX3_pass_24 : decode cX3_pass 24 = .ok (.dup, 1) := by decide +kernel
theorem dX3_pass_25 : decode cX3_pass 25 = .ok (.ldc 188, 2) := by decide +kernel
theorem dX3_pass_27 : decode cX3_pass 27 = .ok (.invokespecial 55, 3) := by decide +kernel
theorem dX3_pass_30 : decode cX3_pass 30 = .ok (.athrow, 1) := by decide +kernel
theorem dX3_pass_31 : decode cX3_pass 31 = .ok (.aload_n 3, 1) := by decide +kernel
theorem dX3_pass_32 : decode cX3_pass 32 = .ok (.ifnonnull 5, 3) := by decide +kernel
theorem dX3_pass_35 : decode cX3_pass 35 = .ok (.iconst 0, 1) := by decide +kernel
theorem dX3_pass_36 : decode cX3_pass 36 = .ok (.ireturn, 1) := by decide +kernel
theorem dX3_pass_37 : decode cX3_pass 37 = .ok (.aload_n 3, 1) := by decide +kernel
theorem dX3_pass_38 : decode cX3_pass 38 = .ok (.getfield 190, 3) := by decide +kernel
theorem dX3_pass_41 : decode cX3_pass 41 = .ok (.iload_n 1, 1) := by decide +kernel
theorem dX3_pass_42 : decode cX3_pass 42 = .ok (.dup2, 1) := by decide +kernel
theorem dX3_pass_43 : decode cX3_pass 43 = .ok (.iaload, 1) := by decide +kernel
theorem dX3_pass_44 : decode cX3_pass 44 = .ok (.iload_n 2, 1) := by decide +kernel
theorem dX3_pass_45 : decode cX3_pass 45 = .ok (.iadd, 1) := by decide +kernel
theorem dX3_pass_46 : decode cX3_pass 46 = .ok (.iastore, 1) := by decide +kernel
theorem dX3_pass_47 : decode cX3_pass 47 = .ok (.aload_n 0, 1) := by decide +kernel
theorem dX3_pass_48 : decode cX3_pass 48 = .ok (.getfield 34, 3) := by decide +kernel
theorem dX3_pass_51 : decode cX3_pass 51 = .ok (.aload_n 3, 1) := by decide +kernel
theorem dX3_pass_52 : decode cX3_pass 52 = .ok (.getfield 94, 3) := by decide +kernel
theorem dX3_pass_55 : decode cX3_pass 55 = .ok (.aload_n 0, 1) := by decide +kernel
theorem dX3_pass_56 : decode cX3_pass 56 = .ok (.getfield 41, 3) := by decide +kernel
theorem dX3_pass_59 : decode cX3_pass 59 = .ok (.iload_n 2, 1) := by decide +kernel
theorem dX3_pass_60 : decode cX3_pass 60 = .ok (.invokevirtual 194, 3) := by decide +kernel
theorem dX3_pass_63 : decode cX3_pass 63 = .ok (.aload_n 3, 1) := by decide +kernel
theorem dX3_pass_64 : decode cX3_pass 64 = .ok (.getfield 190, 3) := by decide +kernel
theorem dX3_pass_67 : decode cX3_pass 67 = .ok (.iload_n 1, 1) := by decide +kernel
theorem dX3_pass_68 : decode cX3_pass 68 = .ok (.iaload, 1) := by decide +kernel
theorem dX3_pass_69 : decode cX3_pass 69 = .ok (.ireturn, 1) := by decide +kernel
theorem dX3_readers_0 : decode cX3_readers 0 = .ok (.aload_n 0, 1) := by decide +kernel
theorem dX3_readers_1 : decode cX3_readers 1 = .ok (.iload_n 1, 1) := by decide +kernel
theorem dX3_readers_2 : decode cX3_readers 2 = .ok (.invokevirtual 114, 3) := by decide +kernel
theorem dX3_readers_5 : decode cX3_readers 5 = .ok (.astore_n 3, 1) := by decide +kernel
theorem dX3_readers_6 : decode cX3_readers 6 = .ok (.iload_n 2, 1) := by decide +kernel
theorem dX3_readers_7 : decode cX3_readers 7 = .ok (.invokestatic 48, 3) := by decide +kernel
theorem dX3_readers_10 : decode cX3_readers 10 = .ok (.aload_n 0, 1) := by decide +kernel
theorem dX3_readers_11 : decode cX3_readers 11 = .ok (.aload_n 3, 1) := by decide +kernel
theorem dX3_readers_12 : decode cX3_readers 12 = .ok (.iload_n 2, 1) := by decide +kernel
theorem dX3_readers_13 : decode cX3_readers 13 = .ok (.invokevirtual 198, 3) := by decide +kernel
theorem dX3_readers_16 : decode cX3_readers 16 = .ok (.ireturn, 1) := by decide +kernel
theorem dX3_readIn_0 : decode cX3_readIn 0 = .ok (.aload_n 0, 1) := by decide +kernel
theorem dX3_readIn_1 : decode cX3_readIn 1 = .ok (.getfield 34, 3) := by decide +kernel
theorem dX3_readIn_4 : decode cX3_readIn 4 = .ok (.aload_n 0, 1) := by decide +kernel
theorem dX3_readIn_5 : decode cX3_readIn 5 = .ok (.iload_n 1, 1) := by decide +kernel
theorem dX3_readIn_6 : decode cX3_readIn 6 = .ok (.invokevirtual 114, 3) := by decide +kernel
theorem dX3_readIn_9 : decode cX3_readIn 9 = .ok (.getfield 94, 3) := by decide +kernel
theorem dX3_readIn_12 : decode cX3_readIn 12 = .ok (.iload_n 2, 1) := by decide +kernel
theorem dX3_readIn_13 : decode cX3_readIn 13 = .ok (.invokevirtual 202, 3) := by decide +kernel
theorem dX3_readIn_16 : decode cX3_readIn 16 = .ok (.ireturn, 1) := by decide +kernel
theorem dX3_suspects_0 : decode cX3_suspects 0 = .ok (.iload_n 1, 1) := by decide +kernel
theorem dX3_suspects_1 : decode cX3_suspects 1 = .ok (.iload_n 2, 1) := by decide +kernel
theorem dX3_suspects_2 : decode cX3_suspects 2 = .ok (.invokestatic 205, 3) := by decide +kernel
theorem dX3_suspects_5 : decode cX3_suspects 5 = .ok (.iconst 0, 1) := by decide +kernel
theorem dX3_suspects_6 : decode cX3_suspects 6 = .ok (.istore_n 3, 1) := by decide +kernel
theorem dX3_suspects_7 : decode cX3_suspects 7 = .ok (.iconst 0, 1) := by decide +kernel
theorem dX3_suspects_8 : decode cX3_suspects 8 = .ok (.istore 4, 2) := by decide +kernel
theorem dX3_suspects_10 : decode cX3_suspects 10 = .ok (.iload 4, 2) := by decide +kernel
theorem dX3_suspects_12 : decode cX3_suspects 12 = .ok (.aload_n 0, 1) := by decide +kernel
theorem dX3_suspects_13 : decode cX3_suspects 13 = .ok (.getfield 28, 3) := by decide +kernel
theorem dX3_suspects_16 : decode cX3_suspects 16 = .ok (.if_icmp .ge 28, 3) := by decide +kernel
theorem dX3_suspects_19 : decode cX3_suspects 19 = .ok (.aload_n 0, 1) := by decide +kernel
theorem dX3_suspects_20 : decode cX3_suspects 20 = .ok (.aload_n 0, 1) := by decide +kernel
theorem dX3_suspects_21 : decode cX3_suspects 21 = .ok (.getfield 21, 3) := by decide +kernel
theorem dX3_suspects_24 : decode cX3_suspects 24 = .ok (.iload 4, 2) := by decide +kernel
theorem dX3_suspects_26 : decode cX3_suspects 26 = .ok (.aaload, 1) := by decide +kernel
theorem dX3_suspects_27 : decode cX3_suspects 27 = .ok (.iload_n 1, 1) := by decide +kernel
theorem dX3_suspects_28 : decode cX3_suspects 28 = .ok (.iload_n 2, 1) := by decide +kernel
theorem dX3_suspects_29 : decode cX3_suspects 29 = .ok (.invokevirtual 208, 3) := by decide +kernel
theorem dX3_suspects_32 : decode cX3_suspects 32 = .ok (.ifCond .eq 6, 3) := by decide +kernel
theorem dX3_suspects_35 : decode cX3_suspects 35 = .ok (.iinc 3 1, 3) := by decide +kernel
theorem dX3_suspects_38 : decode cX3_suspects 38 = .ok (.iinc 4 1, 3) := by decide +kernel
theorem dX3_suspects_41 : decode cX3_suspects 41 = .ok (.goto (-31), 3) := by decide +kernel
theorem dX3_suspects_44 : decode cX3_suspects 44 = .ok (.iload_n 3, 1) := by decide +kernel
theorem dX3_suspects_45 : decode cX3_suspects 45 = .ok (.ireturn, 1) := by decide +kernel
theorem dX3_suspectAt_0 : decode cX3_suspectAt 0 = .ok (.iload_n 1, 1) := by decide +kernel
theorem dX3_suspectAt_1 : decode cX3_suspectAt 1 = .ok (.iload_n 2, 1) := by decide +kernel
theorem dX3_suspectAt_2 : decode cX3_suspectAt 2 = .ok (.invokestatic 205, 3) := by decide +kernel
theorem dX3_suspectAt_5 : decode cX3_suspectAt 5 = .ok (.iconst 0, 1) := by decide +kernel
theorem dX3_suspectAt_6 : decode cX3_suspectAt 6 = .ok (.istore 4, 2) := by decide +kernel
theorem dX3_suspectAt_8 : decode cX3_suspectAt 8 = .ok (.iload 4, 2) := by decide +kernel
theorem dX3_suspectAt_10 : decode cX3_suspectAt 10 = .ok (.aload_n 0, 1) := by decide +kernel
theorem dX3_suspectAt_11 : decode cX3_suspectAt 11 = .ok (.getfield 28, 3) := by decide +kernel
theorem dX3_suspectAt_14 : decode cX3_suspectAt 14 = .ok (.if_icmp .ge 44, 3) := by decide +kernel
theorem dX3_suspectAt_17 : decode cX3_suspectAt 17 = .ok (.aload_n 0, 1) := by decide +kernel
theorem dX3_suspectAt_18 : decode cX3_suspectAt 18 = .ok (.getfield 21, 3) := by decide +kernel
theorem dX3_suspectAt_21 : decode cX3_suspectAt 21 = .ok (.iload 4, 2) := by decide +kernel
theorem dX3_suspectAt_23 : decode cX3_suspectAt 23 = .ok (.aaload, 1) := by decide +kernel
theorem dX3_suspectAt_24 : decode cX3_suspectAt 24 = .ok (.astore 5, 2) := by decide +kernel
theorem dX3_suspectAt_26 : decode cX3_suspectAt 26 = .ok (.aload_n 0, 1) := by decide +kernel
theorem dX3_suspectAt_27 : decode cX3_suspectAt 27 = .ok (.aload 5, 2) := by decide +kernel
theorem dX3_suspectAt_29 : decode cX3_suspectAt 29 = .ok (.iload_n 1, 1) := by decide +kernel
theorem dX3_suspectAt_30 : decode cX3_suspectAt 30 = .ok (.iload_n 2, 1) := by decide +kernel
theorem dX3_suspectAt_31 : decode cX3_suspectAt 31 = .ok (.invokevirtual 208, 3) := by decide +kernel
theorem dX3_suspectAt_34 : decode cX3_suspectAt 34 = .ok (.ifCond .eq 18, 3) := by decide +kernel
theorem dX3_suspectAt_37 : decode cX3_suspectAt 37 = .ok (.aload_n 0, 1) := by decide +kernel
theorem dX3_suspectAt_38 : decode cX3_suspectAt 38 = .ok (.aload 5, 2) := by decide +kernel
theorem dX3_suspectAt_40 : decode cX3_suspectAt 40 = .ok (.iload_n 1, 1) := by decide +kernel
theorem dX3_suspectAt_41 : decode cX3_suspectAt 41 = .ok (.iload_n 2, 1) := by decide +kernel
theorem dX3_suspectAt_42 : decode cX3_suspectAt 42 = .ok (.invokevirtual 212, 3) := by decide +kernel
theorem dX3_suspectAt_45 : decode cX3_suspectAt 45 = .ok (.iload_n 3, 1) := by decide +kernel
theorem dX3_suspectAt_46 : decode cX3_suspectAt 46 = .ok (.if_icmp .ne 6, 3) := by decide +kernel
theorem dX3_suspectAt_49 : decode cX3_suspectAt 49 = .ok (.iload 4, 2) := by decide +kernel
theorem dX3_suspectAt_51 : decode cX3_suspectAt 51 = .ok (.ireturn, 1) := by decide +kernel
theorem dX3_suspectAt_52 : decode cX3_suspectAt 52 = .ok (.iinc 4 1, 3) := by decide +kernel
theorem dX3_suspectAt_55 : decode cX3_suspectAt 55 = .ok (.goto (-47), 3) := by decide +kernel
theorem dX3_suspectAt_58 : decode cX3_suspectAt 58 = .ok (.new 180, 3) := by decide +kernel
theorem dX3_suspectAt_61 : decode cX3_suspectAt 61 = .ok (.dup, 1) := by decide +kernel
theorem dX3_suspectAt_62 : decode cX3_suspectAt 62 = .ok (.ldc 216, 2) := by decide +kernel
theorem dX3_suspectAt_64 : decode cX3_suspectAt 64 = .ok (.invokespecial 184, 3) := by decide +kernel
theorem dX3_suspectAt_67 : decode cX3_suspectAt 67 = .ok (.athrow, 1) := by decide +kernel
theorem dX3_go_0 : decode cX3_go 0 = .ok (.iload_n 1, 1) := by decide +kernel
theorem dX3_go_1 : decode cX3_go 1 = .ok (.iconst 1, 1) := by decide +kernel
theorem dX3_go_2 : decode cX3_go 2 = .ok (.if_icmp .lt 9, 3) := by decide +kernel
theorem dX3_go_5 : decode cX3_go 5 = .ok (.iload_n 1, 1) := by decide +kernel
theorem dX3_go_6 : decode cX3_go 6 = .ok (.bipush 48, 2) := by decide +kernel
theorem dX3_go_8 : decode cX3_go 8 = .ok (.if_icmp .le 13, 3) := by decide +kernel
theorem dX3_go_11 : decode cX3_go 11 = .ok (.new 51, 3) := by decide +kernel
theorem dX3_go_14 : decode cX3_go 14 = .ok (.dup, 1) := by decide +kernel
theorem dX3_go_15 : decode cX3_go 15 = .ok (.ldc 218, 2) := by decide +kernel
theorem dX3_go_17 : decode cX3_go 17 = .ok (.invokespecial 55, 3) := by decide +kernel
theorem dX3_go_20 : decode cX3_go 20 = .ok (.athrow, 1) := by decide +kernel
theorem dX3_go_21 : decode cX3_go 21 = .ok (.aload_n 0, 1) := by decide +kernel
theorem dX3_go_22 : decode cX3_go 22 = .ok (.getfield 41, 3) := by decide +kernel
theorem dX3_go_25 : decode cX3_go 25 = .ok (.iload_n 1, 1) := by decide +kernel
theorem dX3_go_26 : decode cX3_go 26 = .ok (.iadd, 1) := by decide +kernel
theorem dX3_go_27 : decode cX3_go 27 = .ok (.sipush 2000, 3) := by decide +kernel
theorem dX3_go_30 : decode cX3_go 30 = .ok (.if_icmp .le 13, 3) := by decide +kernel
theorem dX3_go_33 : decode cX3_go 33 = .ok (.new 58, 3) := by decide +kernel
theorem dX3_go_36 : decode cX3_go 36 = .ok (.dup, 1) := by decide +kernel
theorem dX3_go_37 : decode cX3_go 37 = .ok (.ldc 220, 2) := by decide +kernel
theorem dX3_go_39 : decode cX3_go 39 = .ok (.invokespecial 62, 3) := by decide +kernel
theorem dX3_go_42 : decode cX3_go 42 = .ok (.athrow, 1) := by decide +kernel
theorem dX3_go_43 : decode cX3_go 43 = .ok (.iconst 0, 1) := by decide +kernel
theorem dX3_go_44 : decode cX3_go 44 = .ok (.istore_n 2, 1) := by decide +kernel
theorem dX3_go_45 : decode cX3_go 45 = .ok (.iload_n 2, 1) := by decide +kernel
theorem dX3_go_46 : decode cX3_go 46 = .ok (.iload_n 1, 1) := by decide +kernel
theorem dX3_go_47 : decode cX3_go 47 = .ok (.if_icmp .ge 45, 3) := by decide +kernel
theorem dX3_go_50 : decode cX3_go 50 = .ok (.aload_n 0, 1) := by decide +kernel
theorem dX3_go_51 : decode cX3_go 51 = .ok (.dup, 1) := by decide +kernel
theorem dX3_go_52 : decode cX3_go 52 = .ok (.getfield 41, 3) := by decide +kernel
theorem dX3_go_55 : decode cX3_go 55 = .ok (.iconst 1, 1) := by decide +kernel
theorem dX3_go_56 : decode cX3_go 56 = .ok (.iadd, 1) := by decide +kernel
theorem dX3_go_57 : decode cX3_go 57 = .ok (.putfield 41, 3) := by decide +kernel
theorem dX3_go_60 : decode cX3_go 60 = .ok (.iconst 0, 1) := by decide +kernel
theorem dX3_go_61 : decode cX3_go 61 = .ok (.istore_n 3, 1) := by decide +kernel
theorem dX3_go_62 : decode cX3_go 62 = .ok (.iload_n 3, 1) := by decide +kernel
theorem dX3_go_63 : decode cX3_go 63 = .ok (.aload_n 0, 1) := by decide +kernel
theorem dX3_go_64 : decode cX3_go 64 = .ok (.getfield 15, 3) := by decide +kernel
theorem dX3_go_67 : decode cX3_go 67 = .ok (.if_icmp .ge 19, 3) := by decide +kernel
theorem dX3_go_70 : decode cX3_go 70 = .ok (.aload_n 0, 1) := by decide +kernel
theorem dX3_go_71 : decode cX3_go 71 = .ok (.aload_n 0, 1) := by decide +kernel
theorem dX3_go_72 : decode cX3_go 72 = .ok (.getfield 11, 3) := by decide +kernel
theorem dX3_go_75 : decode cX3_go 75 = .ok (.iload_n 3, 1) := by decide +kernel
theorem dX3_go_76 : decode cX3_go 76 = .ok (.aaload, 1) := by decide +kernel
theorem dX3_go_77 : decode cX3_go 77 = .ok (.invokevirtual 222, 3) := by decide +kernel
theorem dX3_go_80 : decode cX3_go 80 = .ok (.iinc 3 1, 3) := by decide +kernel
theorem dX3_go_83 : decode cX3_go 83 = .ok (.goto (-21), 3) := by decide +kernel
theorem dX3_go_86 : decode cX3_go 86 = .ok (.iinc 2 1, 3) := by decide +kernel
theorem dX3_go_89 : decode cX3_go 89 = .ok (.goto (-44), 3) := by decide +kernel
theorem dX3_go_92 : decode cX3_go 92 = .ok (.aload_n 0, 1) := by decide +kernel
theorem dX3_go_93 : decode cX3_go 93 = .ok (.getfield 41, 3) := by decide +kernel
theorem dX3_go_96 : decode cX3_go 96 = .ok (.ireturn, 1) := by decide +kernel
theorem dX3_hour_0 : decode cX3_hour 0 = .ok (.aload_n 0, 1) := by decide +kernel
theorem dX3_hour_1 : decode cX3_hour 1 = .ok (.getfield 41, 3) := by decide +kernel
theorem dX3_hour_4 : decode cX3_hour 4 = .ok (.ireturn, 1) := by decide +kernel
theorem dX3_boards_0 : decode cX3_boards 0 = .ok (.aload_n 0, 1) := by decide +kernel
theorem dX3_boards_1 : decode cX3_boards 1 = .ok (.getfield 15, 3) := by decide +kernel
theorem dX3_boards_4 : decode cX3_boards 4 = .ok (.ireturn, 1) := by decide +kernel
theorem dX3_notices_0 : decode cX3_notices 0 = .ok (.aload_n 0, 1) := by decide +kernel
theorem dX3_notices_1 : decode cX3_notices 1 = .ok (.getfield 28, 3) := by decide +kernel
theorem dX3_notices_4 : decode cX3_notices 4 = .ok (.ireturn, 1) := by decide +kernel
theorem dX3_cellAnew_0 : decode cX3_cellAnew 0 = .ok (.aload_n 0, 1) := by decide +kernel
theorem dX3_cellAnew_1 : decode cX3_cellAnew 1 = .ok (.iload_n 1, 1) := by decide +kernel
theorem dX3_cellAnew_2 : decode cX3_cellAnew 2 = .ok (.invokevirtual 69, 3) := by decide +kernel
theorem dX3_cellAnew_5 : decode cX3_cellAnew 5 = .ok (.astore 4, 2) := by decide +kernel
theorem dX3_cellAnew_7 : decode cX3_cellAnew 7 = .ok (.aload 4, 2) := by decide +kernel
theorem dX3_cellAnew_9 : decode cX3_cellAnew 9 = .ok (.invokevirtual 226, 3) := by decide +kernel
theorem dX3_cellAnew_12 : decode cX3_cellAnew 12 = .ok (.iload_n 2, 1) := by decide +kernel
theorem dX3_cellAnew_13 : decode cX3_cellAnew 13 = .ok (.iload_n 3, 1) := by decide +kernel
theorem dX3_cellAnew_14 : decode cX3_cellAnew 14 = .ok (.invokestatic 79, 3) := by decide +kernel
theorem dX3_cellAnew_17 : decode cX3_cellAnew 17 = .ok (.invokestatic 83, 3) := by decide +kernel
theorem dX3_cellAnew_20 : decode cX3_cellAnew 20 = .ok (.ireturn, 1) := by decide +kernel
theorem dX3_changes_0 : decode cX3_changes 0 = .ok (.lconst 0, 1) := by decide +kernel
theorem dX3_changes_1 : decode cX3_changes 1 = .ok (.lstore_n 1, 1) := by decide +kernel
theorem dX3_changes_2 : decode cX3_changes 2 = .ok (.iconst 0, 1) := by decide +kernel
theorem dX3_changes_3 : decode cX3_changes 3 = .ok (.istore_n 3, 1) := by decide +kernel
theorem dX3_changes_4 : decode cX3_changes 4 = .ok (.iload_n 3, 1) := by decide +kernel
theorem dX3_changes_5 : decode cX3_changes 5 = .ok (.aload_n 0, 1) := by decide +kernel
theorem dX3_changes_6 : decode cX3_changes 6 = .ok (.getfield 15, 3) := by decide +kernel
theorem dX3_changes_9 : decode cX3_changes 9 = .ok (.if_icmp .ge 22, 3) := by decide +kernel
theorem dX3_changes_12 : decode cX3_changes 12 = .ok (.lload_n 1, 1) := by decide +kernel
theorem dX3_changes_13 : decode cX3_changes 13 = .ok (.aload_n 0, 1) := by decide +kernel
theorem dX3_changes_14 : decode cX3_changes 14 = .ok (.getfield 11, 3) := by decide +kernel
theorem dX3_changes_17 : decode cX3_changes 17 = .ok (.iload_n 3, 1) := by decide +kernel
theorem dX3_changes_18 : decode cX3_changes 18 = .ok (.aaload, 1) := by decide +kernel
theorem dX3_changes_19 : decode cX3_changes 19 = .ok (.invokevirtual 230, 3) := by decide +kernel
theorem dX3_changes_22 : decode cX3_changes 22 = .ok (.i2l, 1) := by decide +kernel
theorem dX3_changes_23 : decode cX3_changes 23 = .ok (.ladd, 1) := by decide +kernel
theorem dX3_changes_24 : decode cX3_changes 24 = .ok (.lstore_n 1, 1) := by decide +kernel
theorem dX3_changes_25 : decode cX3_changes 25 = .ok (.iinc 3 1, 3) := by decide +kernel
theorem dX3_changes_28 : decode cX3_changes 28 = .ok (.goto (-24), 3) := by decide +kernel
theorem dX3_changes_31 : decode cX3_changes 31 = .ok (.lload_n 1, 1) := by decide +kernel
theorem dX3_changes_32 : decode cX3_changes 32 = .ok (.lreturn, 1) := by decide +kernel
theorem dX3_worst_0 : decode cX3_worst 0 = .ok (.aload_n 0, 1) := by decide +kernel
theorem dX3_worst_1 : decode cX3_worst 1 = .ok (.iload_n 1, 1) := by decide +kernel
theorem dX3_worst_2 : decode cX3_worst 2 = .ok (.invokevirtual 69, 3) := by decide +kernel
theorem dX3_worst_5 : decode cX3_worst 5 = .ok (.getfield 233, 3) := by decide +kernel
theorem dX3_worst_8 : decode cX3_worst 8 = .ok (.ireturn, 1) := by decide +kernel
theorem dX3_checksum_0 : decode cX3_checksum 0 = .ok (.lconst 0, 1) := by decide +kernel
theorem dX3_checksum_1 : decode cX3_checksum 1 = .ok (.lstore_n 1, 1) := by decide +kernel
theorem dX3_checksum_2 : decode cX3_checksum 2 = .ok (.iconst 0, 1) := by decide +kernel
theorem dX3_checksum_3 : decode cX3_checksum 3 = .ok (.istore_n 3, 1) := by decide +kernel
theorem dX3_checksum_4 : decode cX3_checksum 4 = .ok (.iload_n 3, 1) := by decide +kernel
theorem dX3_checksum_5 : decode cX3_checksum 5 = .ok (.aload_n 0, 1) := by decide +kernel
theorem dX3_checksum_6 : decode cX3_checksum 6 = .ok (.getfield 15, 3) := by decide +kernel
theorem dX3_checksum_9 : decode cX3_checksum 9 = .ok (.if_icmp .ge 62, 3) := by decide +kernel
theorem dX3_checksum_12 : decode cX3_checksum 12 = .ok (.aload_n 0, 1) := by decide +kernel
theorem dX3_checksum_13 : decode cX3_checksum 13 = .ok (.getfield 11, 3) := by decide +kernel
theorem dX3_checksum_16 : decode cX3_checksum 16 = .ok (.iload_n 3, 1) := by decide +kernel
theorem dX3_checksum_17 : decode cX3_checksum 17 = .ok (.aaload, 1) := by decide +kernel
theorem dX3_checksum_18 : decode cX3_checksum 18 = .ok (.astore 4, 2) := by decide +kernel
theorem dX3_checksum_20 : decode cX3_checksum 20 = .ok (.iconst 0, 1) := by decide +kernel
theorem dX3_checksum_21 : decode cX3_checksum 21 = .ok (.istore 5, 2) := by decide +kernel
theorem dX3_checksum_23 : decode cX3_checksum 23 = .ok (.iload 5, 2) := by decide +kernel
theorem dX3_checksum_25 : decode cX3_checksum 25 = .ok (.bipush 32, 2) := by decide +kernel
theorem dX3_checksum_27 : decode cX3_checksum 27 = .ok (.if_icmp .ge 38, 3) := by decide +kernel
theorem dX3_checksum_30 : decode cX3_checksum 30 = .ok (.ldc2_w 236, 3) := by decide +kernel
theorem dX3_checksum_33 : decode cX3_checksum 33 = .ok (.lload_n 1, 1) := by decide +kernel
theorem dX3_checksum_34 : decode cX3_checksum 34 = .ok (.lmul, 1) := by decide +kernel
theorem dX3_checksum_35 : decode cX3_checksum 35 = .ok (.aload 4, 2) := by decide +kernel
theorem dX3_checksum_37 : decode cX3_checksum 37 = .ok (.getfield 76, 3) := by decide +kernel
theorem dX3_checksum_40 : decode cX3_checksum 40 = .ok (.iload 5, 2) := by decide +kernel
theorem dX3_checksum_42 : decode cX3_checksum 42 = .ok (.invokestatic 83, 3) := by decide +kernel
theorem dX3_checksum_45 : decode cX3_checksum 45 = .ok (.i2l, 1) := by decide +kernel
theorem dX3_checksum_46 : decode cX3_checksum 46 = .ok (.ladd, 1) := by decide +kernel
theorem dX3_checksum_47 : decode cX3_checksum 47 = .ok (.iconst 2, 1) := by decide +kernel
theorem dX3_checksum_48 : decode cX3_checksum 48 = .ok (.aload 4, 2) := by decide +kernel
theorem dX3_checksum_50 : decode cX3_checksum 50 = .ok (.iload 5, 2) := by decide +kernel
theorem dX3_checksum_52 : decode cX3_checksum 52 = .ok (.invokevirtual 86, 3) := by decide +kernel
theorem dX3_checksum_55 : decode cX3_checksum 55 = .ok (.imul, 1) := by decide +kernel
theorem dX3_checksum_56 : decode cX3_checksum 56 = .ok (.i2l, 1) := by decide +kernel
theorem dX3_checksum_57 : decode cX3_checksum 57 = .ok (.ladd, 1) := by decide +kernel
theorem dX3_checksum_58 : decode cX3_checksum 58 = .ok (.lstore_n 1, 1) := by decide +kernel
theorem dX3_checksum_59 : decode cX3_checksum 59 = .ok (.iinc 5 1, 3) := by decide +kernel
theorem dX3_checksum_62 : decode cX3_checksum 62 = .ok (.goto (-39), 3) := by decide +kernel
theorem dX3_checksum_65 : decode cX3_checksum 65 = .ok (.iinc 3 1, 3) := by decide +kernel
theorem dX3_checksum_68 : decode cX3_checksum 68 = .ok (.goto (-64), 3) := by decide +kernel
theorem dX3_checksum_71 : decode cX3_checksum 71 = .ok (.lload_n 1, 1) := by decide +kernel
theorem dX3_checksum_72 : decode cX3_checksum 72 = .ok (.lreturn, 1) := by decide +kernel
theorem dX3_shownShare_0 : decode cX3_shownShare 0 = .ok (.aload_n 0, 1) := by decide +kernel
theorem dX3_shownShare_1 : decode cX3_shownShare 1 = .ok (.getfield 15, 3) := by decide +kernel
theorem dX3_shownShare_4 : decode cX3_shownShare 4 = .ok (.ifCond .ne 13, 3) := by decide +kernel
theorem dX3_shownShare_7 : decode cX3_shownShare 7 = .ok (.new 238, 3) := by decide +kernel
theorem dX3_shownShare_10 : decode cX3_shownShare 10 = .ok (.dup, 1) := by decide +kernel
theorem dX3_shownShare_11 : decode cX3_shownShare 11 = .ok (.ldc 240, 2) := by decide +kernel
theorem dX3_shownShare_13 : decode cX3_shownShare 13 = .ok (.invokespecial 242, 3) := by decide +kernel
theorem dX3_shownShare_16 : decode cX3_shownShare 16 = .ok (.athrow, 1) := by decide +kernel
theorem dX3_shownShare_17 : decode cX3_shownShare 17 = .ok (.iconst 0, 1) := by decide +kernel
theorem dX3_shownShare_18 : decode cX3_shownShare 18 = .ok (.istore_n 1, 1) := by decide +kernel
theorem dX3_shownShare_19 : decode cX3_shownShare 19 = .ok (.iconst 0, 1) := by decide +kernel
theorem dX3_shownShare_20 : decode cX3_shownShare 20 = .ok (.istore_n 2, 1) := by decide +kernel
theorem dX3_shownShare_21 : decode cX3_shownShare 21 = .ok (.iload_n 2, 1) := by decide +kernel
theorem dX3_shownShare_22 : decode cX3_shownShare 22 = .ok (.aload_n 0, 1) := by decide +kernel
theorem dX3_shownShare_23 : decode cX3_shownShare 23 = .ok (.getfield 15, 3) := by decide +kernel
theorem dX3_shownShare_26 : decode cX3_shownShare 26 = .ok (.if_icmp .ge 24, 3) := by decide +kernel
theorem dX3_shownShare_29 : decode cX3_shownShare 29 = .ok (.aload_n 0, 1) := by decide +kernel
theorem dX3_shownShare_30 : decode cX3_shownShare 30 = .ok (.getfield 11, 3) := by decide +kernel
theorem dX3_shownShare_33 : decode cX3_shownShare 33 = .ok (.iload_n 2, 1) := by decide +kernel
theorem dX3_shownShare_34 : decode cX3_shownShare 34 = .ok (.aaload, 1) := by decide +kernel
theorem dX3_shownShare_35 : decode cX3_shownShare 35 = .ok (.getfield 90, 3) := by decide +kernel
theorem dX3_shownShare_38 : decode cX3_shownShare 38 = .ok (.ifnull 6, 3) := by decide +kernel
theorem dX3_shownShare_41 : decode cX3_shownShare 41 = .ok (.iinc 1 1, 3) := by decide +kernel
theorem dX3_shownShare_44 : decode cX3_shownShare 44 = .ok (.iinc 2 1, 3) := by decide +kernel
theorem dX3_shownShare_47 : decode cX3_shownShare 47 = .ok (.goto (-26), 3) := by decide +kernel
theorem dX3_shownShare_50 : decode cX3_shownShare 50 = .ok (.iload_n 1, 1) := by decide +kernel
theorem dX3_shownShare_51 : decode cX3_shownShare 51 = .ok (.i2f, 1) := by decide +kernel
theorem dX3_shownShare_52 : decode cX3_shownShare 52 = .ok (.aload_n 0, 1) := by decide +kernel
theorem dX3_shownShare_53 : decode cX3_shownShare 53 = .ok (.getfield 15, 3) := by decide +kernel
theorem dX3_shownShare_56 : decode cX3_shownShare 56 = .ok (.i2f, 1) := by decide +kernel
theorem dX3_shownShare_57 : decode cX3_shownShare 57 = .ok (.fdiv, 1) := by decide +kernel
theorem dX3_shownShare_58 : decode cX3_shownShare 58 = .ok (.freturn, 1) := by decide +kernel
theorem dX3_meanWear_0 : decode cX3_meanWear 0 = .ok (.aload_n 0, 1) := by decide +kernel
theorem dX3_meanWear_1 : decode cX3_meanWear 1 = .ok (.getfield 15, 3) := by decide +kernel
theorem dX3_meanWear_4 : decode cX3_meanWear 4 = .ok (.ifCond .ne 13, 3) := by decide +kernel
theorem dX3_meanWear_7 : decode cX3_meanWear 7 = .ok (.new 238, 3) := by decide +kernel
theorem dX3_meanWear_10 : decode cX3_meanWear 10 = .ok (.dup, 1) := by decide +kernel
theorem dX3_meanWear_11 : decode cX3_meanWear 11 = .ok (.ldc 240, 2) := by decide +kernel
theorem dX3_meanWear_13 : decode cX3_meanWear 13 = .ok (.invokespecial 242, 3) := by decide +kernel
theorem dX3_meanWear_16 : decode cX3_meanWear 16 = .ok (.athrow, 1) := by decide +kernel
theorem dX3_meanWear_17 : decode cX3_meanWear 17 = .ok (.aload_n 0, 1) := by decide +kernel
theorem dX3_meanWear_18 : decode cX3_meanWear 18 = .ok (.invokevirtual 243, 3) := by decide +kernel
theorem dX3_meanWear_21 : decode cX3_meanWear 21 = .ok (.l2d, 1) := by decide +kernel
theorem dX3_meanWear_22 : decode cX3_meanWear 22 = .ok (.aload_n 0, 1) := by decide +kernel
theorem dX3_meanWear_23 : decode cX3_meanWear 23 = .ok (.getfield 15, 3) := by decide +kernel
theorem dX3_meanWear_26 : decode cX3_meanWear 26 = .ok (.bipush 32, 2) := by decide +kernel
theorem dX3_meanWear_28 : decode cX3_meanWear 28 = .ok (.imul, 1) := by decide +kernel
theorem dX3_meanWear_29 : decode cX3_meanWear 29 = .ok (.i2d, 1) := by decide +kernel
theorem dX3_meanWear_30 : decode cX3_meanWear 30 = .ok (.ddiv, 1) := by decide +kernel
theorem dX3_meanWear_31 : decode cX3_meanWear 31 = .ok (.dreturn, 1) := by decide +kernel
theorem dX3_isSound_0 : decode cX3_isSound 0 = .ok (.iconst 0, 1) := by decide +kernel
theorem dX3_isSound_1 : decode cX3_isSound 1 = .ok (.istore_n 1, 1) := by decide +kernel
theorem dX3_isSound_2 : decode cX3_isSound 2 = .ok (.iload_n 1, 1) := by decide +kernel
theorem dX3_isSound_3 : decode cX3_isSound 3 = .ok (.aload_n 0, 1) := by decide +kernel
theorem dX3_isSound_4 : decode cX3_isSound 4 = .ok (.getfield 15, 3) := by decide +kernel
theorem dX3_isSound_7 : decode cX3_isSound 7 = .ok (.if_icmp .ge 67, 3) := by decide +kernel
theorem dX3_isSound_10 : decode cX3_isSound 10 = .ok (.aload_n 0, 1) := by decide +kernel
theorem dX3_isSound_11 : decode cX3_isSound 11 = .ok (.getfield 11, 3) := by decide +kernel
theorem dX3_isSound_14 : decode cX3_isSound 14 = .ok (.iload_n 1, 1) := by decide +kernel
theorem dX3_isSound_15 : decode cX3_isSound 15 = .ok (.aaload, 1) := by decide +kernel
theorem dX3_isSound_16 : decode cX3_isSound 16 = .ok (.astore_n 2, 1) := by decide +kernel
theorem dX3_isSound_17 : decode cX3_isSound 17 = .ok (.aload_n 2, 1) := by decide +kernel
theorem dX3_isSound_18 : decode cX3_isSound 18 = .ok (.getfield 90, 3) := by decide +kernel
theorem dX3_isSound_21 : decode cX3_isSound 21 = .ok (.ifnull 17, 3) := by decide +kernel
theorem dX3_isSound_24 : decode cX3_isSound 24 = .ok (.aload_n 2, 1) := by decide +kernel
theorem dX3_isSound_25 : decode cX3_isSound 25 = .ok (.getfield 90, 3) := by decide +kernel
theorem dX3_isSound_28 : decode cX3_isSound 28 = .ok (.aload_n 0, 1) := by decide +kernel
theorem dX3_isSound_29 : decode cX3_isSound 29 = .ok (.getfield 41, 3) := by decide +kernel
theorem dX3_isSound_32 : decode cX3_isSound 32 = .ok (.invokevirtual 185, 3) := by decide +kernel
theorem dX3_isSound_35 : decode cX3_isSound 35 = .ok (.ifCond .eq 7, 3) := by decide +kernel
theorem dX3_isSound_38 : decode cX3_isSound 38 = .ok (.iconst 1, 1) := by decide +kernel
theorem dX3_isSound_39 : decode cX3_isSound 39 = .ok (.goto 4, 3) := by decide +kernel
theorem dX3_isSound_42 : decode cX3_isSound 42 = .ok (.iconst 0, 1) := by decide +kernel
theorem dX3_isSound_43 : decode cX3_isSound 43 = .ok (.istore_n 3, 1) := by decide +kernel
theorem dX3_isSound_44 : decode cX3_isSound 44 = .ok (.iload_n 3, 1) := by decide +kernel
theorem dX3_isSound_45 : decode cX3_isSound 45 = .ok (.ifCond .eq 21, 3) := by decide +kernel
theorem dX3_isSound_48 : decode cX3_isSound 48 = .ok (.aload_n 2, 1) := by decide +kernel
theorem dX3_isSound_49 : decode cX3_isSound 49 = .ok (.invokevirtual 247, 3) := by decide +kernel
theorem dX3_isSound_52 : decode cX3_isSound 52 = .ok (.ifCond .eq 14, 3) := by decide +kernel
theorem dX3_isSound_55 : decode cX3_isSound 55 = .ok (.aload_n 2, 1) := by decide +kernel
theorem dX3_isSound_56 : decode cX3_isSound 56 = .ok (.getfield 76, 3) := by decide +kernel
theorem dX3_isSound_59 : decode cX3_isSound 59 = .ok (.aload_n 2, 1) := by decide +kernel
theorem dX3_isSound_60 : decode cX3_isSound 60 = .ok (.invokevirtual 226, 3) := by decide +kernel
theorem dX3_isSound_63 : decode cX3_isSound 63 = .ok (.if_icmp .eq 5, 3) := by decide +kernel
theorem dX3_isSound_66 : decode cX3_isSound 66 = .ok (.iconst 0, 1) := by decide +kernel
theorem dX3_isSound_67 : decode cX3_isSound 67 = .ok (.ireturn, 1) := by decide +kernel
theorem dX3_isSound_68 : decode cX3_isSound 68 = .ok (.iinc 1 1, 3) := by decide +kernel
theorem dX3_isSound_71 : decode cX3_isSound 71 = .ok (.goto (-69), 3) := by decide +kernel
theorem dX3_isSound_74 : decode cX3_isSound 74 = .ok (.iconst 1, 1) := by decide +kernel
theorem dX3_isSound_75 : decode cX3_isSound 75 = .ok (.ireturn, 1) := by decide +kernel
theorem dX3_boardAt_0 : decode cX3_boardAt 0 = .ok (.iload_n 1, 1) := by decide +kernel
theorem dX3_boardAt_1 : decode cX3_boardAt 1 = .ok (.ifCond .lt 11, 3) := by decide +kernel
theorem dX3_boardAt_4 : decode cX3_boardAt 4 = .ok (.iload_n 1, 1) := by decide +kernel
theorem dX3_boardAt_5 : decode cX3_boardAt 5 = .ok (.aload_n 0, 1) := by decide +kernel
theorem dX3_boardAt_6 : decode cX3_boardAt 6 = .ok (.getfield 15, 3) := by decide +kernel
theorem dX3_boardAt_9 : decode cX3_boardAt 9 = .ok (.if_icmp .lt 13, 3) := by decide +kernel
theorem dX3_boardAt_12 : decode cX3_boardAt 12 = .ok (.new 180, 3) := by decide +kernel
theorem dX3_boardAt_15 : decode cX3_boardAt 15 = .ok (.dup, 1) := by decide +kernel
theorem dX3_boardAt_16 : decode cX3_boardAt 16 = .ok (.ldc 251, 2) := by decide +kernel
theorem dX3_boardAt_18 : decode cX3_boardAt 18 = .ok (.invokespecial 184, 3) := by decide +kernel
theorem dX3_boardAt_21 : decode cX3_boardAt 21 = .ok (.athrow, 1) := by decide +kernel
theorem dX3_boardAt_22 : decode cX3_boardAt 22 = .ok (.aload_n 0, 1) := by decide +kernel
theorem dX3_boardAt_23 : decode cX3_boardAt 23 = .ok (.getfield 11, 3) := by decide +kernel
theorem dX3_boardAt_26 : decode cX3_boardAt 26 = .ok (.iload_n 1, 1) := by decide +kernel
theorem dX3_boardAt_27 : decode cX3_boardAt 27 = .ok (.aaload, 1) := by decide +kernel
theorem dX3_boardAt_28 : decode cX3_boardAt 28 = .ok (.areturn, 1) := by decide +kernel
theorem dX3_noticeAt_0 : decode cX3_noticeAt 0 = .ok (.iload_n 1, 1) := by decide +kernel
theorem dX3_noticeAt_1 : decode cX3_noticeAt 1 = .ok (.ifCond .lt 11, 3) := by decide +kernel
theorem dX3_noticeAt_4 : decode cX3_noticeAt 4 = .ok (.iload_n 1, 1) := by decide +kernel
theorem dX3_noticeAt_5 : decode cX3_noticeAt 5 = .ok (.aload_n 0, 1) := by decide +kernel
theorem dX3_noticeAt_6 : decode cX3_noticeAt 6 = .ok (.getfield 28, 3) := by decide +kernel
theorem dX3_noticeAt_9 : decode cX3_noticeAt 9 = .ok (.if_icmp .lt 13, 3) := by decide +kernel
theorem dX3_noticeAt_12 : decode cX3_noticeAt 12 = .ok (.new 180, 3) := by decide +kernel
theorem dX3_noticeAt_15 : decode cX3_noticeAt 15 = .ok (.dup, 1) := by decide +kernel
theorem dX3_noticeAt_16 : decode cX3_noticeAt 16 = .ok (.ldc 253, 2) := by decide +kernel
theorem dX3_noticeAt_18 : decode cX3_noticeAt 18 = .ok (.invokespecial 184, 3) := by decide +kernel
theorem dX3_noticeAt_21 : decode cX3_noticeAt 21 = .ok (.athrow, 1) := by decide +kernel
theorem dX3_noticeAt_22 : decode cX3_noticeAt 22 = .ok (.aload_n 0, 1) := by decide +kernel
theorem dX3_noticeAt_23 : decode cX3_noticeAt 23 = .ok (.getfield 21, 3) := by decide +kernel
theorem dX3_noticeAt_26 : decode cX3_noticeAt 26 = .ok (.iload_n 1, 1) := by decide +kernel
theorem dX3_noticeAt_27 : decode cX3_noticeAt 27 = .ok (.aaload, 1) := by decide +kernel
theorem dX3_noticeAt_28 : decode cX3_noticeAt 28 = .ok (.areturn, 1) := by decide +kernel
theorem dX3_cellAt_0 : decode cX3_cellAt 0 = .ok (.iload_n 0, 1) := by decide +kernel
theorem dX3_cellAt_1 : decode cX3_cellAt 1 = .ok (.ifCond .lt 18, 3) := by decide +kernel
theorem dX3_cellAt_4 : decode cX3_cellAt 4 = .ok (.iload_n 0, 1) := by decide +kernel
theorem dX3_cellAt_5 : decode cX3_cellAt 5 = .ok (.bipush 8, 2) := by decide +kernel
theorem dX3_cellAt_7 : decode cX3_cellAt 7 = .ok (.if_icmp .ge 12, 3) := by decide +kernel
theorem dX3_cellAt_10 : decode cX3_cellAt 10 = .ok (.iload_n 1, 1) := by decide +kernel
theorem dX3_cellAt_11 : decode cX3_cellAt 11 = .ok (.ifCond .lt 8, 3) := by decide +kernel
theorem dX3_cellAt_14 : decode cX3_cellAt 14 = .ok (.iload_n 1, 1) := by decide +kernel
theorem dX3_cellAt_15 : decode cX3_cellAt 15 = .ok (.iconst 4, 1) := by decide +kernel
theorem dX3_cellAt_16 : decode cX3_cellAt 16 = .ok (.if_icmp .lt 13, 3) := by decide +kernel
theorem dX3_cellAt_19 : decode cX3_cellAt 19 = .ok (.new 180, 3) := by decide +kernel
theorem dX3_cellAt_22 : decode cX3_cellAt 22 = .ok (.dup, 1) := by decide +kernel
theorem dX3_cellAt_23 : decode cX3_cellAt 23 = .ok (.ldc 255, 2) := by decide +kernel
theorem dX3_cellAt_25 : decode cX3_cellAt 25 = .ok (.invokespecial 184, 3) := by decide +kernel
theorem dX3_cellAt_28 : decode cX3_cellAt 28 = .ok (.athrow, 1) := by decide +kernel
theorem dX3_cellAt_29 : decode cX3_cellAt 29 = .ok (.bipush 8, 2) := by decide +kernel
theorem dX3_cellAt_31 : decode cX3_cellAt 31 = .ok (.iload_n 1, 1) := by decide +kernel
theorem dX3_cellAt_32 : decode cX3_cellAt 32 = .ok (.imul, 1) := by decide +kernel
theorem dX3_cellAt_33 : decode cX3_cellAt 33 = .ok (.iload_n 0, 1) := by decide +kernel
theorem dX3_cellAt_34 : decode cX3_cellAt 34 = .ok (.iadd, 1) := by decide +kernel
theorem dX3_cellAt_35 : decode cX3_cellAt 35 = .ok (.ireturn, 1) := by decide +kernel
theorem dX3_bitOf_0 : decode cX3_bitOf 0 = .ok (.iload_n 0, 1) := by decide +kernel
theorem dX3_bitOf_1 : decode cX3_bitOf 1 = .ok (.iload_n 1, 1) := by decide +kernel
theorem dX3_bitOf_2 : decode cX3_bitOf 2 = .ok (.iushr, 1) := by decide +kernel
theorem dX3_bitOf_3 : decode cX3_bitOf 3 = .ok (.iconst 1, 1) := by decide +kernel
theorem dX3_bitOf_4 : decode cX3_bitOf 4 = .ok (.iand, 1) := by decide +kernel
theorem dX3_bitOf_5 : decode cX3_bitOf 5 = .ok (.ireturn, 1) := by decide +kernel
theorem dX3_checkDistrict_0 : decode cX3_checkDistrict 0 = .ok (.iload_n 0, 1) := by decide +kernel
theorem dX3_checkDistrict_1 : decode cX3_checkDistrict 1 = .ok (.ifCond .lt 8, 3) := by decide +kernel
theorem dX3_checkDistrict_4 : decode cX3_checkDistrict 4 = .ok (.iload_n 0, 1) := by decide +kernel
theorem dX3_checkDistrict_5 : decode cX3_checkDistrict 5 = .ok (.iconst 4, 1) := by decide +kernel
theorem dX3_checkDistrict_6 : decode cX3_checkDistrict 6 = .ok (.if_icmp .lt 14, 3) := by decide +kernel
theorem dX3_checkDistrict_9 : decode cX3_checkDistrict 9 = .ok (.new 51, 3) := by decide +kernel
theorem dX3_checkDistrict_12 : decode cX3_checkDistrict 12 = .ok (.dup, 1) := by decide +kernel
theorem dX3_checkDistrict_13 : decode cX3_checkDistrict 13 = .ok (.ldc_w 257, 3) := by decide +kernel
theorem dX3_checkDistrict_16 : decode cX3_checkDistrict 16 = .ok (.invokespecial 55, 3) := by decide +kernel
theorem dX3_checkDistrict_19 : decode cX3_checkDistrict 19 = .ok (.athrow, 1) := by decide +kernel
theorem dX3_checkDistrict_20 : decode cX3_checkDistrict 20 = .ok (.return_, 1) := by decide +kernel
theorem dX3_checkRumour_0 : decode cX3_checkRumour 0 = .ok (.iload_n 1, 1) := by decide +kernel
theorem dX3_checkRumour_1 : decode cX3_checkRumour 1 = .ok (.invokestatic 48, 3) := by decide +kernel
theorem dX3_checkRumour_4 : decode cX3_checkRumour 4 = .ok (.iload_n 0, 1) := by decide +kernel
theorem dX3_checkRumour_5 : decode cX3_checkRumour 5 = .ok (.ifCond .ne 14, 3) := by decide +kernel
theorem dX3_checkRumour_8 : decode cX3_checkRumour 8 = .ok (.new 51, 3) := by decide +kernel
theorem dX3_checkRumour_11 : decode cX3_checkRumour 11 = .ok (.dup, 1) := by decide +kernel
theorem dX3_checkRumour_12 : decode cX3_checkRumour 12 = .ok (.ldc_w 259, 3) := by decide +kernel
theorem dX3_checkRumour_15 : decode cX3_checkRumour 15 = .ok (.invokespecial 55, 3) := by decide +kernel
theorem dX3_checkRumour_18 : decode cX3_checkRumour 18 = .ok (.athrow, 1) := by decide +kernel
theorem dX3_checkRumour_19 : decode cX3_checkRumour 19 = .ok (.return_, 1) := by decide +kernel
theorem dX3_take_0 : decode cX3_take 0 = .ok (.aload_n 0, 1) := by decide +kernel
theorem dX3_take_1 : decode cX3_take 1 = .ok (.getfield 28, 3) := by decide +kernel
theorem dX3_take_4 : decode cX3_take 4 = .ok (.bipush 40, 2) := by decide +kernel
theorem dX3_take_6 : decode cX3_take 6 = .ok (.if_icmp .lt 14, 3) := by decide +kernel
theorem dX3_take_9 : decode cX3_take 9 = .ok (.new 58, 3) := by decide +kernel
theorem dX3_take_12 : decode cX3_take 12 = .ok (.dup, 1) := by decide +kernel
theorem dX3_take_13 : decode cX3_take 13 = .ok (.ldc_w 261, 3) := by decide +kernel
theorem dX3_take_16 : decode cX3_take 16 = .ok (.invokespecial 62, 3) := by decide +kernel
theorem dX3_take_19 : decode cX3_take 19 = .ok (.athrow, 1) := by decide +kernel
theorem dX3_take_20 : decode cX3_take 20 = .ok (.aload_n 0, 1) := by decide +kernel
theorem dX3_take_21 : decode cX3_take 21 = .ok (.getfield 21, 3) := by decide +kernel
theorem dX3_take_24 : decode cX3_take 24 = .ok (.aload_n 0, 1) := by decide +kernel
theorem dX3_take_25 : decode cX3_take 25 = .ok (.getfield 28, 3) := by decide +kernel
theorem dX3_take_28 : decode cX3_take 28 = .ok (.aaload, 1) := by decide +kernel
theorem dX3_take_29 : decode cX3_take 29 = .ok (.astore 5, 2) := by decide +kernel
theorem dX3_take_31 : decode cX3_take 31 = .ok (.aload 5, 2) := by decide +kernel
theorem dX3_take_33 : decode cX3_take 33 = .ok (.iload_n 1, 1) := by decide +kernel
theorem dX3_take_34 : decode cX3_take 34 = .ok (.iload_n 2, 1) := by decide +kernel
theorem dX3_take_35 : decode cX3_take 35 = .ok (.iload_n 3, 1) := by decide +kernel
theorem dX3_take_36 : decode cX3_take 36 = .ok (.iload 4, 2) := by decide +kernel
theorem dX3_take_38 : decode cX3_take 38 = .ok (.invokevirtual 263, 3) := by decide +kernel
theorem dX3_take_41 : decode cX3_take 41 = .ok (.aload_n 0, 1) := by decide +kernel
theorem dX3_take_42 : decode cX3_take 42 = .ok (.getfield 28, 3) := by decide +kernel
theorem dX3_take_45 : decode cX3_take 45 = .ok (.istore 6, 2) := by decide +kernel
theorem dX3_take_47 : decode cX3_take 47 = .ok (.iload 6, 2) := by decide +kernel
theorem dX3_take_49 : decode cX3_take 49 = .ok (.ifCond .le 41, 3) := by decide +kernel
theorem dX3_take_52 : decode cX3_take 52 = .ok (.aload_n 0, 1) := by decide +kernel
theorem dX3_take_53 : decode cX3_take 53 = .ok (.getfield 25, 3) := by decide +kernel
theorem dX3_take_56 : decode cX3_take 56 = .ok (.iload 6, 2) := by decide +kernel
theorem dX3_take_58 : decode cX3_take 58 = .ok (.iconst 1, 1) := by decide +kernel
theorem dX3_take_59 : decode cX3_take 59 = .ok (.isub, 1) := by decide +kernel
theorem dX3_take_60 : decode cX3_take 60 = .ok (.aaload, 1) := by decide +kernel
theorem dX3_take_61 : decode cX3_take 61 = .ok (.getfield 158, 3) := by decide +kernel
theorem dX3_take_64 : decode cX3_take 64 = .ok (.iload_n 1, 1) := by decide +kernel
theorem dX3_take_65 : decode cX3_take 65 = .ok (.if_icmp .ge 25, 3) := by decide +kernel
theorem dX3_take_68 : decode cX3_take 68 = .ok (.aload_n 0, 1) := by decide +kernel
theorem dX3_take_69 : decode cX3_take 69 = .ok (.getfield 25, 3) := by decide +kernel
theorem dX3_take_72 : decode cX3_take 72 = .ok (.iload 6, 2) := by decide +kernel
theorem dX3_take_74 : decode cX3_take 74 = .ok (.aload_n 0, 1) := by decide +kernel
theorem dX3_take_75 : decode cX3_take 75 = .ok (.getfield 25, 3) := by decide +kernel
theorem dX3_take_78 : decode cX3_take 78 = .ok (.iload 6, 2) := by decide +kernel
theorem dX3_take_80 : decode cX3_take 80 = .ok (.iconst 1, 1) := by decide +kernel
theorem dX3_take_81 : decode cX3_take 81 = .ok (.isub, 1) := by decide +kernel
theorem dX3_take_82 : decode cX3_take 82 = .ok (.aaload, 1) := by decide +kernel
theorem dX3_take_83 : decode cX3_take 83 = .ok (.aastore, 1) := by decide +kernel
theorem dX3_take_84 : decode cX3_take 84 = .ok (.iinc 6 (-1), 3) := by decide +kernel
theorem dX3_take_87 : decode cX3_take 87 = .ok (.goto (-40), 3) := by decide +kernel
theorem dX3_take_90 : decode cX3_take 90 = .ok (.aload_n 0, 1) := by decide +kernel
theorem dX3_take_91 : decode cX3_take 91 = .ok (.getfield 25, 3) := by decide +kernel
theorem dX3_take_94 : decode cX3_take 94 = .ok (.iload 6, 2) := by decide +kernel
theorem dX3_take_96 : decode cX3_take 96 = .ok (.aload 5, 2) := by decide +kernel
theorem dX3_take_98 : decode cX3_take 98 = .ok (.aastore, 1) := by decide +kernel
theorem dX3_take_99 : decode cX3_take 99 = .ok (.aload_n 0, 1) := by decide +kernel
theorem dX3_take_100 : decode cX3_take 100 = .ok (.dup, 1) := by decide +kernel
theorem dX3_take_101 : decode cX3_take 101 = .ok (.getfield 28, 3) := by decide +kernel
theorem dX3_take_104 : decode cX3_take 104 = .ok (.iconst 1, 1) := by decide +kernel
theorem dX3_take_105 : decode cX3_take 105 = .ok (.iadd, 1) := by decide +kernel
theorem dX3_take_106 : decode cX3_take 106 = .ok (.putfield 28, 3) := by decide +kernel
theorem dX3_take_109 : decode cX3_take 109 = .ok (.aload 5, 2) := by decide +kernel
theorem dX3_take_111 : decode cX3_take 111 = .ok (.areturn, 1) := by decide +kernel
theorem dX3_queueWhereRead_0 : decode cX3_queueWhereRead 0 = .ok (.iconst 0, 1) := by decide +kernel
theorem dX3_queueWhereRead_1 : decode cX3_queueWhereRead 1 = .ok (.istore_n 3, 1) := by decide +kernel
theorem dX3_queueWhereRead_2 : decode cX3_queueWhereRead 2 = .ok (.iload_n 3, 1) := by decide +kernel
theorem dX3_queueWhereRead_3 : decode cX3_queueWhereRead 3 = .ok (.iconst 4, 1) := by decide +kernel
theorem dX3_queueWhereRead_4 : decode cX3_queueWhereRead 4 = .ok (.if_icmp .ge 35, 3) := by decide +kernel
theorem dX3_queueWhereRead_7 : decode cX3_queueWhereRead 7 = .ok (.aload_n 2, 1) := by decide +kernel
theorem dX3_queueWhereRead_8 : decode cX3_queueWhereRead 8 = .ok (.iload_n 3, 1) := by decide +kernel
theorem dX3_queueWhereRead_9 : decode cX3_queueWhereRead 9 = .ok (.aload_n 0, 1) := by decide +kernel
theorem dX3_queueWhereRead_10 : decode cX3_queueWhereRead 10 = .ok (.getfield 41, 3) := by decide +kernel
theorem dX3_queueWhereRead_13 : decode cX3_queueWhereRead 13 = .ok (.invokevirtual 129, 3) := by decide +kernel
theorem dX3_queueWhereRead_16 : decode cX3_queueWhereRead 16 = .ok (.ifCond .eq 17, 3) := by decide +kernel
theorem dX3_queueWhereRead_19 : decode cX3_queueWhereRead 19 = .ok (.aload_n 0, 1) := by decide +kernel
theorem dX3_queueWhereRead_20 : decode cX3_queueWhereRead 20 = .ok (.aload_n 2, 1) := by decide +kernel
theorem dX3_queueWhereRead_21 : decode cX3_queueWhereRead 21 = .ok (.iload_n 3, 1) := by decide +kernel
theorem dX3_queueWhereRead_22 : decode cX3_queueWhereRead 22 = .ok (.invokevirtual 198, 3) := by decide +kernel
theorem dX3_queueWhereRead_25 : decode cX3_queueWhereRead 25 = .ok (.ifCond .le 8, 3) := by decide +kernel
theorem dX3_queueWhereRead_28 : decode cX3_queueWhereRead 28 = .ok (.aload_n 1, 1) := by decide +kernel
theorem dX3_queueWhereRead_29 : decode cX3_queueWhereRead 29 = .ok (.iload_n 3, 1) := by decide +kernel
theorem dX3_queueWhereRead_30 : decode cX3_queueWhereRead 30 = .ok (.invokevirtual 133, 3) := by decide +kernel
theorem dX3_queueWhereRead_33 : decode cX3_queueWhereRead 33 = .ok (.iinc 3 1, 3) := by decide +kernel
theorem dX3_queueWhereRead_36 : decode cX3_queueWhereRead 36 = .ok (.goto (-34), 3) := by decide +kernel
theorem dX3_queueWhereRead_39 : decode cX3_queueWhereRead 39 = .ok (.return_, 1) := by decide +kernel
theorem dX3_boardsThatShow_0 : decode cX3_boardsThatShow 0 = .ok (.iconst 0, 1) := by decide +kernel
theorem dX3_boardsThatShow_1 : decode cX3_boardsThatShow 1 = .ok (.istore_n 2, 1) := by decide +kernel
theorem dX3_boardsThatShow_2 : decode cX3_boardsThatShow 2 = .ok (.iconst 0, 1) := by decide +kernel
theorem dX3_boardsThatShow_3 : decode cX3_boardsThatShow 3 = .ok (.istore_n 3, 1) := by decide +kernel
theorem dX3_boardsThatShow_4 : decode cX3_boardsThatShow 4 = .ok (.iload_n 3, 1) := by decide +kernel
theorem dX3_boardsThatShow_5 : decode cX3_boardsThatShow 5 = .ok (.aload_n 0, 1) := by decide +kernel
theorem dX3_boardsThatShow_6 : decode cX3_boardsThatShow 6 = .ok (.getfield 15, 3) := by decide +kernel
theorem dX3_boardsThatShow_9 : decode cX3_boardsThatShow 9 = .ok (.if_icmp .ge 25, 3) := by decide +kernel
theorem dX3_boardsThatShow_12 : decode cX3_boardsThatShow 12 = .ok (.aload_n 0, 1) := by decide +kernel
theorem dX3_boardsThatShow_13 : decode cX3_boardsThatShow 13 = .ok (.getfield 11, 3) := by decide +kernel
theorem dX3_boardsThatShow_16 : decode cX3_boardsThatShow 16 = .ok (.iload_n 3, 1) := by decide +kernel
theorem dX3_boardsThatShow_17 : decode cX3_boardsThatShow 17 = .ok (.aaload, 1) := by decide +kernel
theorem dX3_boardsThatShow_18 : decode cX3_boardsThatShow 18 = .ok (.getfield 90, 3) := by decide +kernel
theorem dX3_boardsThatShow_21 : decode cX3_boardsThatShow 21 = .ok (.aload_n 1, 1) := by decide +kernel
theorem dX3_boardsThatShow_22 : decode cX3_boardsThatShow 22 = .ok (.if_acmp .ne 6, 3) := by decide +kernel
theorem dX3_boardsThatShow_25 : decode cX3_boardsThatShow 25 = .ok (.iinc 2 1, 3) := by decide +kernel
theorem dX3_boardsThatShow_28 : decode cX3_boardsThatShow 28 = .ok (.iinc 3 1, 3) := by decide +kernel
theorem dX3_boardsThatShow_31 : decode cX3_boardsThatShow 31 = .ok (.goto (-27), 3) := by decide +kernel
theorem dX3_boardsThatShow_34 : decode cX3_boardsThatShow 34 = .ok (.iload_n 2, 1) := by decide +kernel
theorem dX3_boardsThatShow_35 : decode cX3_boardsThatShow 35 = .ok (.ireturn, 1) := by decide +kernel
theorem dX3_readersIn_0 : decode cX3_readersIn 0 = .ok (.iconst 0, 1) := by decide +kernel
theorem dX3_readersIn_1 : decode cX3_readersIn 1 = .ok (.istore_n 3, 1) := by decide +kernel
theorem dX3_readersIn_2 : decode cX3_readersIn 2 = .ok (.iconst 0, 1) := by decide +kernel
theorem dX3_readersIn_3 : decode cX3_readersIn 3 = .ok (.istore 4, 2) := by decide +kernel
theorem dX3_readersIn_5 : decode cX3_readersIn 5 = .ok (.iload 4, 2) := by decide +kernel
theorem dX3_readersIn_7 : decode cX3_readersIn 7 = .ok (.aload_n 0, 1) := by decide +kernel
theorem dX3_readersIn_8 : decode cX3_readersIn 8 = .ok (.getfield 15, 3) := by decide +kernel
theorem dX3_readersIn_11 : decode cX3_readersIn 11 = .ok (.if_icmp .ge 33, 3) := by decide +kernel
theorem dX3_readersIn_14 : decode cX3_readersIn 14 = .ok (.aload_n 0, 1) := by decide +kernel
theorem dX3_readersIn_15 : decode cX3_readersIn 15 = .ok (.getfield 11, 3) := by decide +kernel
theorem dX3_readersIn_18 : decode cX3_readersIn 18 = .ok (.iload 4, 2) := by decide +kernel
theorem dX3_readersIn_20 : decode cX3_readersIn 20 = .ok (.aaload, 1) := by decide +kernel
theorem dX3_readersIn_21 : decode cX3_readersIn 21 = .ok (.getfield 267, 3) := by decide +kernel
theorem dX3_readersIn_24 : decode cX3_readersIn 24 = .ok (.iload_n 2, 1) := by decide +kernel
theorem dX3_readersIn_25 : decode cX3_readersIn 25 = .ok (.if_icmp .ne 13, 3) := by decide +kernel
theorem dX3_readersIn_28 : decode cX3_readersIn 28 = .ok (.iload_n 3, 1) := by decide +kernel
theorem dX3_readersIn_29 : decode cX3_readersIn 29 = .ok (.aload_n 1, 1) := by decide +kernel
theorem dX3_readersIn_30 : decode cX3_readersIn 30 = .ok (.getfield 190, 3) := by decide +kernel
theorem dX3_readersIn_33 : decode cX3_readersIn 33 = .ok (.iload 4, 2) := by decide +kernel
theorem dX3_readersIn_35 : decode cX3_readersIn 35 = .ok (.iaload, 1) := by decide +kernel
theorem dX3_readersIn_36 : decode cX3_readersIn 36 = .ok (.iadd, 1) := by decide +kernel
theorem dX3_readersIn_37 : decode cX3_readersIn 37 = .ok (.istore_n 3, 1) := by decide +kernel
theorem dX3_readersIn_38 : decode cX3_readersIn 38 = .ok (.iinc 4 1, 3) := by decide +kernel
theorem dX3_readersIn_41 : decode cX3_readersIn 41 = .ok (.goto (-36), 3) := by decide +kernel
theorem dX3_readersIn_44 : decode cX3_readersIn 44 = .ok (.iload_n 3, 1) := by decide +kernel
theorem dX3_readersIn_45 : decode cX3_readersIn 45 = .ok (.ireturn, 1) := by decide +kernel
theorem dX3_isSuspect_0 : decode cX3_isSuspect 0 = .ok (.aload_n 0, 1) := by decide +kernel
theorem dX3_isSuspect_1 : decode cX3_isSuspect 1 = .ok (.aload_n 1, 1) := by decide +kernel
theorem dX3_isSuspect_2 : decode cX3_isSuspect 2 = .ok (.iload_n 3, 1) := by decide +kernel
theorem dX3_isSuspect_3 : decode cX3_isSuspect 3 = .ok (.invokevirtual 198, 3) := by decide +kernel
theorem dX3_isSuspect_6 : decode cX3_isSuspect 6 = .ok (.ifCond .le 15, 3) := by decide +kernel
theorem dX3_isSuspect_9 : decode cX3_isSuspect 9 = .ok (.aload_n 1, 1) := by decide +kernel
theorem dX3_isSuspect_10 : decode cX3_isSuspect 10 = .ok (.iload_n 2, 1) := by decide +kernel
theorem dX3_isSuspect_11 : decode cX3_isSuspect 11 = .ok (.invokevirtual 270, 3) := by decide +kernel
theorem dX3_isSuspect_14 : decode cX3_isSuspect 14 = .ok (.ifCond .eq 7, 3) := by decide +kernel
theorem dX3_isSuspect_17 : decode cX3_isSuspect 17 = .ok (.iconst 1, 1) := by decide +kernel
theorem dX3_isSuspect_18 : decode cX3_isSuspect 18 = .ok (.goto 4, 3) := by decide +kernel
theorem dX3_isSuspect_21 : decode cX3_isSuspect 21 = .ok (.iconst 0, 1) := by decide +kernel
theorem dX3_isSuspect_22 : decode cX3_isSuspect 22 = .ok (.ireturn, 1) := by decide +kernel
theorem dX3_suspectsAhead_0 : decode cX3_suspectsAhead 0 = .ok (.aload_n 0, 1) := by decide +kernel
theorem dX3_suspectsAhead_1 : decode cX3_suspectsAhead 1 = .ok (.aload_n 1, 1) := by decide +kernel
theorem dX3_suspectsAhead_2 : decode cX3_suspectsAhead 2 = .ok (.iload_n 3, 1) := by decide +kernel
theorem dX3_suspectsAhead_3 : decode cX3_suspectsAhead 3 = .ok (.invokevirtual 198, 3) := by decide +kernel
theorem dX3_suspectsAhead_6 : decode cX3_suspectsAhead 6 = .ok (.istore 4, 2) := by decide +kernel
theorem dX3_suspectsAhead_8 : decode cX3_suspectsAhead 8 = .ok (.iconst 0, 1) := by decide +kernel
theorem dX3_suspectsAhead_9 : decode cX3_suspectsAhead 9 = .ok (.istore 5, 2) := by decide +kernel
theorem dX3_suspectsAhead_11 : decode cX3_suspectsAhead 11 = .ok (.iconst 0, 1) := by decide +kernel
theorem dX3_suspectsAhead_12 : decode cX3_suspectsAhead 12 = .ok (.istore 6, 2) := by decide +kernel
theorem dX3_suspectsAhead_14 : decode cX3_suspectsAhead 14 = .ok (.iload 6, 2) := by decide +kernel
theorem dX3_suspectsAhead_16 : decode cX3_suspectsAhead 16 = .ok (.aload_n 0, 1) := by decide +kernel
theorem dX3_suspectsAhead_17 : decode cX3_suspectsAhead 17 = .ok (.getfield 28, 3) := by decide +kernel
theorem dX3_suspectsAhead_20 : decode cX3_suspectsAhead 20 = .ok (.if_icmp .ge 77, 3) := by decide +kernel
theorem dX3_suspectsAhead_23 : decode cX3_suspectsAhead 23 = .ok (.aload_n 0, 1) := by decide +kernel
theorem dX3_suspectsAhead_24 : decode cX3_suspectsAhead 24 = .ok (.aload_n 0, 1) := by decide +kernel
theorem dX3_suspectsAhead_25 : decode cX3_suspectsAhead 25 = .ok (.getfield 21, 3) := by decide +kernel
theorem dX3_suspectsAhead_28 : decode cX3_suspectsAhead 28 = .ok (.iload 6, 2) := by decide +kernel
theorem dX3_suspectsAhead_30 : decode cX3_suspectsAhead 30 = .ok (.aaload, 1) := by decide +kernel
theorem dX3_suspectsAhead_31 : decode cX3_suspectsAhead 31 = .ok (.iload_n 3, 1) := by decide +kernel
theorem dX3_suspectsAhead_32 : decode cX3_suspectsAhead 32 = .ok (.invokevirtual 198, 3) := by decide +kernel
theorem dX3_suspectsAhead_35 : decode cX3_suspectsAhead 35 = .ok (.istore 7, 2) := by decide +kernel
theorem dX3_suspectsAhead_37 : decode cX3_suspectsAhead 37 = .ok (.iload 7, 2) := by decide +kernel
theorem dX3_suspectsAhead_39 : decode cX3_suspectsAhead 39 = .ok (.iload 4, 2) := by decide +kernel
theorem dX3_suspectsAhead_41 : decode cX3_suspectsAhead 41 = .ok (.if_icmp .gt 19, 3) := by decide +kernel
theorem dX3_suspectsAhead_44 : decode cX3_suspectsAhead 44 = .ok (.iload 7, 2) := by decide +kernel
theorem dX3_suspectsAhead_46 : decode cX3_suspectsAhead 46 = .ok (.iload 4, 2) := by decide +kernel
theorem dX3_suspectsAhead_48 : decode cX3_suspectsAhead 48 = .ok (.if_icmp .ne 16, 3) := by decide +kernel
theorem dX3_suspectsAhead_51 : decode cX3_suspectsAhead 51 = .ok (.iload 6, 2) := by decide +kernel
theorem dX3_suspectsAhead_53 : decode cX3_suspectsAhead 53 = .ok (.aload_n 1, 1) := by decide +kernel
theorem dX3_suspectsAhead_54 : decode cX3_suspectsAhead 54 = .ok (.getfield 94, 3) := by decide +kernel
theorem dX3_suspectsAhead_57 : decode cX3_suspectsAhead 57 = .ok (.if_icmp .ge 7, 3) := by decide +kernel
theorem dX3_suspectsAhead_60 : decode cX3_suspectsAhead 60 = .ok (.iconst 1, 1) := by decide +kernel
theorem dX3_suspectsAhead_61 : decode cX3_suspectsAhead 61 = .ok (.goto 4, 3) := by decide +kernel
theorem dX3_suspectsAhead_64 : decode cX3_suspectsAhead 64 = .ok (.iconst 0, 1) := by decide +kernel
theorem dX3_suspectsAhead_65 : decode cX3_suspectsAhead 65 = .ok (.istore 8, 2) := by decide +kernel
theorem dX3_suspectsAhead_67 : decode cX3_suspectsAhead 67 = .ok (.iload 8, 2) := by decide +kernel
theorem dX3_suspectsAhead_69 : decode cX3_suspectsAhead 69 = .ok (.ifCond .eq 22, 3) := by decide +kernel
theorem dX3_suspectsAhead_72 : decode cX3_suspectsAhead 72 = .ok (.aload_n 0, 1) := by decide +kernel
theorem dX3_suspectsAhead_73 : decode cX3_suspectsAhead 73 = .ok (.aload_n 0, 1) := by decide +kernel
theorem dX3_suspectsAhead_74 : decode cX3_suspectsAhead 74 = .ok (.getfield 21, 3) := by decide +kernel
theorem dX3_suspectsAhead_77 : decode cX3_suspectsAhead 77 = .ok (.iload 6, 2) := by decide +kernel
theorem dX3_suspectsAhead_79 : decode cX3_suspectsAhead 79 = .ok (.aaload, 1) := by decide +kernel
theorem dX3_suspectsAhead_80 : decode cX3_suspectsAhead 80 = .ok (.iload_n 2, 1) := by decide +kernel
theorem dX3_suspectsAhead_81 : decode cX3_suspectsAhead 81 = .ok (.iload_n 3, 1) := by decide +kernel
theorem dX3_suspectsAhead_82 : decode cX3_suspectsAhead 82 = .ok (.invokevirtual 208, 3) := by decide +kernel
theorem dX3_suspectsAhead_85 : decode cX3_suspectsAhead 85 = .ok (.ifCond .eq 6, 3) := by decide +kernel
theorem dX3_suspectsAhead_88 : decode cX3_suspectsAhead 88 = .ok (.iinc 5 1, 3) := by decide +kernel
theorem dX3_suspectsAhead_91 : decode cX3_suspectsAhead 91 = .ok (.iinc 6 1, 3) := by decide +kernel
theorem dX3_suspectsAhead_94 : decode cX3_suspectsAhead 94 = .ok (.goto (-80), 3) := by decide +kernel
theorem dX3_suspectsAhead_97 : decode cX3_suspectsAhead 97 = .ok (.iload 5, 2) := by decide +kernel
theorem dX3_suspectsAhead_99 : decode cX3_suspectsAhead 99 = .ok (.ireturn, 1) := by decide +kernel
theorem dX3_letHourComeTo_0 : decode cX3_letHourComeTo 0 = .ok (.aload_n 1, 1) := by decide +kernel
theorem dX3_letHourComeTo_1 : decode cX3_letHourComeTo 1 = .ok (.aload_n 0, 1) := by decide +kernel
theorem dX3_letHourComeTo_2 : decode cX3_letHourComeTo 2 = .ok (.getfield 38, 3) := by decide +kernel
theorem dX3_letHourComeTo_5 : decode cX3_letHourComeTo 5 = .ok (.invokevirtual 273, 3) := by decide +kernel
theorem dX3_letHourComeTo_8 : decode cX3_letHourComeTo 8 = .ok (.aload_n 1, 1) := by decide +kernel
theorem dX3_letHourComeTo_9 : decode cX3_letHourComeTo 9 = .ok (.iconst 0, 1) := by decide +kernel
theorem dX3_letHourComeTo_10 : decode cX3_letHourComeTo 10 = .ok (.putfield 100, 3) := by decide +kernel
theorem dX3_letHourComeTo_13 : decode cX3_letHourComeTo 13 = .ok (.aload_n 1, 1) := by decide +kernel
theorem dX3_letHourComeTo_14 : decode cX3_letHourComeTo 14 = .ok (.getfield 90, 3) := by decide +kernel
theorem dX3_letHourComeTo_17 : decode cX3_letHourComeTo 17 = .ok (.ifnull 21, 3) := by decide +kernel
theorem dX3_letHourComeTo_20 : decode cX3_letHourComeTo 20 = .ok (.aload_n 1, 1) := by decide +kernel
theorem dX3_letHourComeTo_21 : decode cX3_letHourComeTo 21 = .ok (.getfield 90, 3) := by decide +kernel
theorem dX3_letHourComeTo_24 : decode cX3_letHourComeTo 24 = .ok (.aload_n 0, 1) := by decide +kernel
theorem dX3_letHourComeTo_25 : decode cX3_letHourComeTo 25 = .ok (.getfield 41, 3) := by decide +kernel
theorem dX3_letHourComeTo_28 : decode cX3_letHourComeTo 28 = .ok (.invokevirtual 185, 3) := by decide +kernel
theorem dX3_letHourComeTo_31 : decode cX3_letHourComeTo 31 = .ok (.ifCond .ne 7, 3) := by decide +kernel
theorem dX3_letHourComeTo_34 : decode cX3_letHourComeTo 34 = .ok (.aload_n 1, 1) := by decide +kernel
theorem dX3_letHourComeTo_35 : decode cX3_letHourComeTo 35 = .ok (.invokevirtual 276, 3) := by decide +kernel
theorem dX3_letHourComeTo_38 : decode cX3_letHourComeTo 38 = .ok (.iconst 0, 1) := by decide +kernel
theorem dX3_letHourComeTo_39 : decode cX3_letHourComeTo 39 = .ok (.istore_n 2, 1) := by decide +kernel
theorem dX3_letHourComeTo_40 : decode cX3_letHourComeTo 40 = .ok (.iload_n 2, 1) := by decide +kernel
theorem dX3_letHourComeTo_41 : decode cX3_letHourComeTo 41 = .ok (.aload_n 0, 1) := by decide +kernel
theorem dX3_letHourComeTo_42 : decode cX3_letHourComeTo 42 = .ok (.getfield 28, 3) := by decide +kernel
theorem dX3_letHourComeTo_45 : decode cX3_letHourComeTo 45 = .ok (.if_icmp .ge 56, 3) := by decide +kernel
theorem dX3_letHourComeTo_48 : decode cX3_letHourComeTo 48 = .ok (.aload_n 0, 1) := by decide +kernel
theorem dX3_letHourComeTo_49 : decode cX3_letHourComeTo 49 = .ok (.getfield 25, 3) := by decide +kernel
theorem dX3_letHourComeTo_52 : decode cX3_letHourComeTo 52 = .ok (.iload_n 2, 1) := by decide +kernel
theorem dX3_letHourComeTo_53 : decode cX3_letHourComeTo 53 = .ok (.aaload, 1) := by decide +kernel
theorem dX3_letHourComeTo_54 : decode cX3_letHourComeTo 54 = .ok (.astore_n 3, 1) := by decide +kernel
theorem dX3_letHourComeTo_55 : decode cX3_letHourComeTo 55 = .ok (.aload_n 3, 1) := by decide +kernel
theorem dX3_letHourComeTo_56 : decode cX3_letHourComeTo 56 = .ok (.aload_n 0, 1) := by decide +kernel
theorem dX3_letHourComeTo_57 : decode cX3_letHourComeTo 57 = .ok (.getfield 41, 3) := by decide +kernel
theorem dX3_letHourComeTo_60 : decode cX3_letHourComeTo 60 = .ok (.invokevirtual 185, 3) := by decide +kernel
theorem dX3_letHourComeTo_63 : decode cX3_letHourComeTo 63 = .ok (.ifCond .eq 32, 3) := by decide +kernel
theorem dX3_letHourComeTo_66 : decode cX3_letHourComeTo 66 = .ok (.aload_n 3, 1) := by decide +kernel
theorem dX3_letHourComeTo_67 : decode cX3_letHourComeTo 67 = .ok (.aload_n 1, 1) := by decide +kernel
theorem dX3_letHourComeTo_68 : decode cX3_letHourComeTo 68 = .ok (.getfield 267, 3) := by decide +kernel
theorem dX3_letHourComeTo_71 : decode cX3_letHourComeTo 71 = .ok (.aload_n 0, 1) := by decide +kernel
theorem dX3_letHourComeTo_72 : decode cX3_letHourComeTo 72 = .ok (.getfield 41, 3) := by decide +kernel
theorem dX3_letHourComeTo_75 : decode cX3_letHourComeTo 75 = .ok (.invokevirtual 129, 3) := by decide +kernel
theorem dX3_letHourComeTo_78 : decode cX3_letHourComeTo 78 = .ok (.ifCond .eq 17, 3) := by decide +kernel
theorem dX3_letHourComeTo_81 : decode cX3_letHourComeTo 81 = .ok (.aload_n 1, 1) := by decide +kernel
theorem dX3_letHourComeTo_82 : decode cX3_letHourComeTo 82 = .ok (.aload_n 3, 1) := by decide +kernel
theorem dX3_letHourComeTo_83 : decode cX3_letHourComeTo 83 = .ok (.invokevirtual 279, 3) := by decide +kernel
theorem dX3_letHourComeTo_86 : decode cX3_letHourComeTo 86 = .ok (.ifCond .eq 4, 3) := by decide +kernel
theorem dX3_letHourComeTo_89 : decode cX3_letHourComeTo 89 = .ok (.return_, 1) := by decide +kernel
theorem dX3_letHourComeTo_90 : decode cX3_letHourComeTo 90 = .ok (.aload_n 1, 1) := by decide +kernel
theorem dX3_letHourComeTo_91 : decode cX3_letHourComeTo 91 = .ok (.iconst 1, 1) := by decide +kernel
theorem dX3_letHourComeTo_92 : decode cX3_letHourComeTo 92 = .ok (.putfield 100, 3) := by decide +kernel
theorem dX3_letHourComeTo_95 : decode cX3_letHourComeTo 95 = .ok (.iinc 2 1, 3) := by decide +kernel
theorem dX3_letHourComeTo_98 : decode cX3_letHourComeTo 98 = .ok (.goto (-58), 3) := by decide +kernel
theorem dX3_letHourComeTo_101 : decode cX3_letHourComeTo 101 = .ok (.aload_n 1, 1) := by decide +kernel
theorem dX3_letHourComeTo_102 : decode cX3_letHourComeTo 102 = .ok (.invokevirtual 276, 3) := by decide +kernel
theorem dX3_letHourComeTo_105 : decode cX3_letHourComeTo 105 = .ok (.return_, 1) := by decide +kernel
theorem dX3_shifted_0 : decode cX3_shifted 0 = .ok (.sipush 255, 3) := by decide +kernel
theorem dX3_shifted_3 : decode cX3_shifted 3 = .ok (.iload_n 1, 1) := by decide +kernel
theorem dX3_shifted_4 : decode cX3_shifted 4 = .ok (.ishl, 1) := by decide +kernel
theorem dX3_shifted_5 : decode cX3_shifted 5 = .ok (.sipush 255, 3) := by decide +kernel
theorem dX3_shifted_8 : decode cX3_shifted 8 = .ok (.iand, 1) := by decide +kernel
theorem dX3_shifted_9 : decode cX3_shifted 9 = .ok (.ldc_w 283, 3) := by decide +kernel
theorem dX3_shifted_12 : decode cX3_shifted 12 = .ok (.imul, 1) := by decide +kernel
theorem dX3_shifted_13 : decode cX3_shifted 13 = .ok (.istore_n 2, 1) := by decide +kernel
theorem dX3_shifted_14 : decode cX3_shifted 14 = .ok (.iload_n 0, 1) := by decide +kernel
theorem dX3_shifted_15 : decode cX3_shifted 15 = .ok (.iload_n 1, 1) := by decide +kernel
theorem dX3_shifted_16 : decode cX3_shifted 16 = .ok (.ishl, 1) := by decide +kernel
theorem dX3_shifted_17 : decode cX3_shifted 17 = .ok (.iload_n 2, 1) := by decide +kernel
theorem dX3_shifted_18 : decode cX3_shifted 18 = .ok (.iand, 1) := by decide +kernel
theorem dX3_shifted_19 : decode cX3_shifted 19 = .ok (.iload_n 0, 1) := by decide +kernel
theorem dX3_shifted_20 : decode cX3_shifted 20 = .ok (.bipush 8, 2) := by decide +kernel
theorem dX3_shifted_22 : decode cX3_shifted 22 = .ok (.iload_n 1, 1) := by decide +kernel
theorem dX3_shifted_23 : decode cX3_shifted 23 = .ok (.isub, 1) := by decide +kernel
theorem dX3_shifted_24 : decode cX3_shifted 24 = .ok (.iushr, 1) := by decide +kernel
theorem dX3_shifted_25 : decode cX3_shifted 25 = .ok (.iload_n 2, 1) := by decide +kernel
theorem dX3_shifted_26 : decode cX3_shifted 26 = .ok (.iconst (-1), 1) := by decide +kernel
theorem dX3_shifted_27 : decode cX3_shifted 27 = .ok (.ixor, 1) := by decide +kernel
theorem dX3_shifted_28 : decode cX3_shifted 28 = .ok (.iand, 1) := by decide +kernel
theorem dX3_shifted_29 : decode cX3_shifted 29 = .ok (.ior, 1) := by decide +kernel
theorem dX3_shifted_30 : decode cX3_shifted 30 = .ok (.ireturn, 1) := by decide +kernel
theorem dJx00060_init_a7421_0 : decode cJx00060_init_a7421 0 = .ok (.aload_n 0, 1) := by decide +kernel
theorem dJx00060_init_a7421_1 : decode cJx00060_init_a7421 1 = .ok (.aload_n 1, 1) := by decide +kernel
theorem dJx00060_init_a7421_2 : decode cJx00060_init_a7421 2 = .ok (.invokespecial 7, 3) := by decide +kernel
theorem dJx00060_init_a7421_5 : decode cJx00060_init_a7421 5 = .ok (.return_, 1) := by decide +kernel
theorem dJ6_bitCount_0f7a4_0 : decode cJ6_bitCount_0f7a4 0 = .ok (.iload_n 0, 1) := by decide +kernel
theorem dJ6_bitCount_0f7a4_1 : decode cJ6_bitCount_0f7a4 1 = .ok (.iload_n 0, 1) := by decide +kernel
theorem dJ6_bitCount_0f7a4_2 : decode cJ6_bitCount_0f7a4 2 = .ok (.iconst 1, 1) := by decide +kernel
theorem dJ6_bitCount_0f7a4_3 : decode cJ6_bitCount_0f7a4 3 = .ok (.iushr, 1) := by decide +kernel
theorem dJ6_bitCount_0f7a4_4 : decode cJ6_bitCount_0f7a4 4 = .ok (.ldc_w 265, 3) := by decide +kernel
theorem dJ6_bitCount_0f7a4_7 : decode cJ6_bitCount_0f7a4 7 = .ok (.iand, 1) := by decide +kernel
theorem dJ6_bitCount_0f7a4_8 : decode cJ6_bitCount_0f7a4 8 = .ok (.isub, 1) := by decide +kernel
theorem dJ6_bitCount_0f7a4_9 : decode cJ6_bitCount_0f7a4 9 = .ok (.istore_n 0, 1) := by decide +kernel
theorem dJ6_bitCount_0f7a4_10 : decode cJ6_bitCount_0f7a4 10 = .ok (.iload_n 0, 1) := by decide +kernel
theorem dJ6_bitCount_0f7a4_11 : decode cJ6_bitCount_0f7a4 11 = .ok (.ldc_w 266, 3) := by decide +kernel
theorem dJ6_bitCount_0f7a4_14 : decode cJ6_bitCount_0f7a4 14 = .ok (.iand, 1) := by decide +kernel
theorem dJ6_bitCount_0f7a4_15 : decode cJ6_bitCount_0f7a4 15 = .ok (.iload_n 0, 1) := by decide +kernel
theorem dJ6_bitCount_0f7a4_16 : decode cJ6_bitCount_0f7a4 16 = .ok (.iconst 2, 1) := by decide +kernel
theorem dJ6_bitCount_0f7a4_17 : decode cJ6_bitCount_0f7a4 17 = .ok (.iushr, 1) := by decide +kernel
theorem dJ6_bitCount_0f7a4_18 : decode cJ6_bitCount_0f7a4 18 = .ok (.ldc_w 266, 3) := by decide +kernel
theorem dJ6_bitCount_0f7a4_21 : decode cJ6_bitCount_0f7a4 21 = .ok (.iand, 1) := by decide +kernel
theorem dJ6_bitCount_0f7a4_22 : decode cJ6_bitCount_0f7a4 22 = .ok (.iadd, 1) := by decide +kernel
theorem dJ6_bitCount_0f7a4_23 : decode cJ6_bitCount_0f7a4 23 = .ok (.istore_n 0, 1) := by decide +kernel
theorem dJ6_bitCount_0f7a4_24 : decode cJ6_bitCount_0f7a4 24 = .ok (.iload_n 0, 1) := by decide +kernel
theorem dJ6_bitCount_0f7a4_25 : decode cJ6_bitCount_0f7a4 25 = .ok (.iload_n 0, 1) := by decide +kernel
theorem dJ6_bitCount_0f7a4_26 : decode cJ6_bitCount_0f7a4 26 = .ok (.iconst 4, 1) := by decide +kernel
theorem dJ6_bitCount_0f7a4_27 : decode cJ6_bitCount_0f7a4 27 = .ok (.iushr, 1) := by decide +kernel
theorem dJ6_bitCount_0f7a4_28 : decode cJ6_bitCount_0f7a4 28 = .ok (.iadd, 1) := by decide +kernel
theorem dJ6_bitCount_0f7a4_29 : decode cJ6_bitCount_0f7a4 29 = .ok (.ldc_w 267, 3) := by decide +kernel
theorem dJ6_bitCount_0f7a4_32 : decode cJ6_bitCount_0f7a4 32 = .ok (.iand, 1) := by decide +kernel
theorem dJ6_bitCount_0f7a4_33 : decode cJ6_bitCount_0f7a4 33 = .ok (.istore_n 0, 1) := by decide +kernel
theorem dJ6_bitCount_0f7a4_34 : decode cJ6_bitCount_0f7a4 34 = .ok (.iload_n 0, 1) := by decide +kernel
theorem dJ6_bitCount_0f7a4_35 : decode cJ6_bitCount_0f7a4 35 = .ok (.iload_n 0, 1) := by decide +kernel
theorem dJ6_bitCount_0f7a4_36 : decode cJ6_bitCount_0f7a4 36 = .ok (.bipush 8, 2) := by decide +kernel
theorem dJ6_bitCount_0f7a4_38 : decode cJ6_bitCount_0f7a4 38 = .ok (.iushr, 1) := by decide +kernel
theorem dJ6_bitCount_0f7a4_39 : decode cJ6_bitCount_0f7a4 39 = .ok (.iadd, 1) := by decide +kernel
theorem dJ6_bitCount_0f7a4_40 : decode cJ6_bitCount_0f7a4 40 = .ok (.istore_n 0, 1) := by decide +kernel
theorem dJ6_bitCount_0f7a4_41 : decode cJ6_bitCount_0f7a4 41 = .ok (.iload_n 0, 1) := by decide +kernel
theorem dJ6_bitCount_0f7a4_42 : decode cJ6_bitCount_0f7a4 42 = .ok (.iload_n 0, 1) := by decide +kernel
theorem dJ6_bitCount_0f7a4_43 : decode cJ6_bitCount_0f7a4 43 = .ok (.bipush 16, 2) := by decide +kernel
theorem dJ6_bitCount_0f7a4_45 : decode cJ6_bitCount_0f7a4 45 = .ok (.iushr, 1) := by decide +kernel
theorem dJ6_bitCount_0f7a4_46 : decode cJ6_bitCount_0f7a4 46 = .ok (.iadd, 1) := by decide +kernel
theorem dJ6_bitCount_0f7a4_47 : decode cJ6_bitCount_0f7a4 47 = .ok (.istore_n 0, 1) := by decide +kernel
theorem dJ6_bitCount_0f7a4_48 : decode cJ6_bitCount_0f7a4 48 = .ok (.iload_n 0, 1) := by decide +kernel
theorem dJ6_bitCount_0f7a4_49 : decode cJ6_bitCount_0f7a4 49 = .ok (.bipush 63, 2) := by decide +kernel
theorem dJ6_bitCount_0f7a4_51 : decode cJ6_bitCount_0f7a4 51 = .ok (.iand, 1) := by decide +kernel
theorem dJ6_bitCount_0f7a4_52 : decode cJ6_bitCount_0f7a4 52 = .ok (.ireturn, 1) := by decide +kernel
theorem dJ9_max_7cf53_0 : decode cJ9_max_7cf53 0 = .ok (.iload_n 0, 1) := by decide +kernel
theorem dJ9_max_7cf53_1 : decode cJ9_max_7cf53 1 = .ok (.iload_n 1, 1) := by decide +kernel
theorem dJ9_max_7cf53_2 : decode cJ9_max_7cf53 2 = .ok (.if_icmp .lt 7, 3) := by decide +kernel
theorem dJ9_max_7cf53_5 : decode cJ9_max_7cf53 5 = .ok (.iload_n 0, 1) := by decide +kernel
theorem dJ9_max_7cf53_6 : decode cJ9_max_7cf53 6 = .ok (.goto 4, 3) := by decide +kernel
theorem dJ9_max_7cf53_9 : decode cJ9_max_7cf53 9 = .ok (.iload_n 1, 1) := by decide +kernel
theorem dJ9_max_7cf53_10 : decode cJ9_max_7cf53 10 = .ok (.ireturn, 1) := by decide +kernel
theorem dJ9_min_7cf53_0 : decode cJ9_min_7cf53 0 = .ok (.iload_n 0, 1) := by decide +kernel
theorem dJ9_min_7cf53_1 : decode cJ9_min_7cf53 1 = .ok (.iload_n 1, 1) := by decide +kernel
theorem dJ9_min_7cf53_2 : decode cJ9_min_7cf53 2 = .ok (.if_icmp .gt 7, 3) := by decide +kernel
theorem dJ9_min_7cf53_5 : decode cJ9_min_7cf53 5 = .ok (.iload_n 0, 1) := by decide +kernel
theorem dJ9_min_7cf53_6 : decode cJ9_min_7cf53 6 = .ok (.goto 4, 3) := by decide +kernel
theorem dJ9_min_7cf53_9 : decode cJ9_min_7cf53 9 = .ok (.iload_n 1, 1) := by decide +kernel
theorem dJ9_min_7cf53_10 : decode cJ9_min_7cf53 10 = .ok (.ireturn, 1) := by decide +kernel
theorem dL_cell_0 : decode cL_cell 0 = .ok (.ldc 7, 2) := by decide +kernel
theorem dL_cell_2 : decode cL_cell 2 = .ok (.iload_n 1, 1) := by decide +kernel
theorem dL_cell_3 : decode cL_cell 3 = .ok (.aload_n 0, 1) := by decide +kernel
theorem dL_cell_4 : decode cL_cell 4 = .ok (.arraylength, 1) := by decide +kernel
theorem dL_cell_5 : decode cL_cell 5 = .ok (.if_icmp .ge 9, 3) := by decide +kernel
theorem dL_cell_8 : decode cL_cell 8 = .ok (.aload_n 0, 1) := by decide +kernel
theorem dL_cell_9 : decode cL_cell 9 = .ok (.iload_n 1, 1) := by decide +kernel
theorem dL_cell_10 : decode cL_cell 10 = .ok (.iaload, 1) := by decide +kernel
theorem dL_cell_11 : decode cL_cell 11 = .ok (.goto 4, 3) := by decide +kernel
theorem dL_cell_14 : decode cL_cell 14 = .ok (.iconst 0, 1) := by decide +kernel
theorem dL_cell_15 : decode cL_cell 15 = .ok (.sipush 1009, 3) := by decide +kernel
theorem dL_cell_18 : decode cL_cell 18 = .ok (.iload_n 1, 1) := by decide +kernel
theorem dL_cell_19 : decode cL_cell 19 = .ok (.imul, 1) := by decide +kernel
theorem dL_cell_20 : decode cL_cell 20 = .ok (.iadd, 1) := by decide +kernel
theorem dL_cell_21 : decode cL_cell 21 = .ok (.imul, 1) := by decide +kernel
theorem dL_cell_22 : decode cL_cell 22 = .ok (.sipush 12345, 3) := by decide +kernel
theorem dL_cell_25 : decode cL_cell 25 = .ok (.iadd, 1) := by decide +kernel
theorem dL_cell_26 : decode cL_cell 26 = .ok (.istore_n 2, 1) := by decide +kernel
theorem dL_cell_27 : decode cL_cell 27 = .ok (.iload_n 2, 1) := by decide +kernel
theorem dL_cell_28 : decode cL_cell 28 = .ok (.iload_n 2, 1) := by decide +kernel
theorem dL_cell_29 : decode cL_cell 29 = .ok (.bipush 13, 2) := by decide +kernel
theorem dL_cell_31 : decode cL_cell 31 = .ok (.iushr, 1) := by decide +kernel
theorem dL_cell_32 : decode cL_cell 32 = .ok (.ixor, 1) := by decide +kernel
theorem dL_cell_33 : decode cL_cell 33 = .ok (.ldc 8, 2) := by decide +kernel
theorem dL_cell_35 : decode cL_cell 35 = .ok (.imul, 1) := by decide +kernel
theorem dL_cell_36 : decode cL_cell 36 = .ok (.istore_n 2, 1) := by decide +kernel
theorem dL_cell_37 : decode cL_cell 37 = .ok (.iload_n 2, 1) := by decide +kernel
theorem dL_cell_38 : decode cL_cell 38 = .ok (.iload_n 2, 1) := by decide +kernel
theorem dL_cell_39 : decode cL_cell 39 = .ok (.bipush 16, 2) := by decide +kernel
theorem dL_cell_41 : decode cL_cell 41 = .ok (.iushr, 1) := by decide +kernel
theorem dL_cell_42 : decode cL_cell 42 = .ok (.ixor, 1) := by decide +kernel
theorem dL_cell_43 : decode cL_cell 43 = .ok (.ireturn, 1) := by decide +kernel
theorem dL_pick_0 : decode cL_pick 0 = .ok (.aload_n 0, 1) := by decide +kernel
theorem dL_pick_1 : decode cL_pick 1 = .ok (.iload_n 1, 1) := by decide +kernel
theorem dL_pick_2 : decode cL_pick 2 = .ok (.invokestatic 9, 3) := by decide +kernel
theorem dL_pick_5 : decode cL_pick 5 = .ok (.bipush 8, 2) := by decide +kernel
theorem dL_pick_7 : decode cL_pick 7 = .ok (.iushr, 1) := by decide +kernel
theorem dL_pick_8 : decode cL_pick 8 = .ok (.iload_n 2, 1) := by decide +kernel
theorem dL_pick_9 : decode cL_pick 9 = .ok (.irem, 1) := by decide +kernel
theorem dL_pick_10 : decode cL_pick 10 = .ok (.ireturn, 1) := by decide +kernel
theorem dL_told_0 : decode cL_told 0 = .ok (.iload_n 0, 1) := by decide +kernel
theorem dL_told_1 : decode cL_told 1 = .ok (.ifCond .eq 7, 3) := by decide +kernel
theorem dL_told_4 : decode cL_told 4 = .ok (.iconst 1, 1) := by decide +kernel
theorem dL_told_5 : decode cL_told 5 = .ok (.goto 4, 3) := by decide +kernel
theorem dL_told_8 : decode cL_told 8 = .ok (.iconst 0, 1) := by decide +kernel
theorem dL_told_9 : decode cL_told 9 = .ok (.ireturn, 1) := by decide +kernel
theorem dL_plain_0 : decode cL_plain 0 = .ok (.iload_n 1, 1) := by decide +kernel
theorem dL_plain_1 : decode cL_plain 1 = .ok (.tableswitch 283 0 22 #[107, 114, 120, 126, 135, 144, 150, 156, 165, 176, 186, 193, 200, 209, 215, 222, 231, 238, 245, 252, 259, 268, 274], 107) := by decide +kernel
theorem dL_plain_108 : decode cL_plain 108 = .ok (.aload_n 0, 1) := by decide +kernel
theorem dL_plain_109 : decode cL_plain 109 = .ok (.iload_n 2, 1) := by decide +kernel
theorem dL_plain_110 : decode cL_plain 110 = .ok (.iload_n 3, 1) := by decide +kernel
theorem dL_plain_111 : decode cL_plain 111 = .ok (.invokevirtual 15, 3) := by decide +kernel
theorem dL_plain_114 : decode cL_plain 114 = .ok (.ireturn, 1) := by decide +kernel
theorem dL_plain_115 : decode cL_plain 115 = .ok (.aload_n 0, 1) := by decide +kernel
theorem dL_plain_116 : decode cL_plain 116 = .ok (.iload_n 2, 1) := by decide +kernel
theorem dL_plain_117 : decode cL_plain 117 = .ok (.invokevirtual 21, 3) := by decide +kernel
theorem dL_plain_120 : decode cL_plain 120 = .ok (.ireturn, 1) := by decide +kernel
theorem dL_plain_121 : decode cL_plain 121 = .ok (.aload_n 0, 1) := by decide +kernel
theorem dL_plain_122 : decode cL_plain 122 = .ok (.iload_n 2, 1) := by decide +kernel
theorem dL_plain_123 : decode cL_plain 123 = .ok (.invokevirtual 25, 3) := by decide +kernel
theorem dL_plain_126 : decode cL_plain 126 = .ok (.ireturn, 1) := by decide +kernel
theorem dL_plain_127 : decode cL_plain 127 = .ok (.aload_n 0, 1) := by decide +kernel
theorem dL_plain_128 : decode cL_plain 128 = .ok (.iload_n 2, 1) := by decide +kernel
theorem dL_plain_129 : decode cL_plain 129 = .ok (.iload_n 3, 1) := by decide +kernel
theorem dL_plain_130 : decode cL_plain 130 = .ok (.iload 4, 2) := by decide +kernel
theorem dL_plain_132 : decode cL_plain 132 = .ok (.invokevirtual 28, 3) := by decide +kernel
theorem dL_plain_135 : decode cL_plain 135 = .ok (.ireturn, 1) := by decide +kernel
theorem dL_plain_136 : decode cL_plain 136 = .ok (.aload_n 0, 1) := by decide +kernel
theorem dL_plain_137 : decode cL_plain 137 = .ok (.iload_n 2, 1) := by decide +kernel
theorem dL_plain_138 : decode cL_plain 138 = .ok (.iload_n 3, 1) := by decide +kernel
theorem dL_plain_139 : decode cL_plain 139 = .ok (.iload 4, 2) := by decide +kernel
theorem dL_plain_141 : decode cL_plain 141 = .ok (.invokevirtual 31, 3) := by decide +kernel
theorem dL_plain_144 : decode cL_plain 144 = .ok (.ireturn, 1) := by decide +kernel
theorem dL_plain_145 : decode cL_plain 145 = .ok (.aload_n 0, 1) := by decide +kernel
theorem dL_plain_146 : decode cL_plain 146 = .ok (.iload_n 2, 1) := by decide +kernel
theorem dL_plain_147 : decode cL_plain 147 = .ok (.invokevirtual 34, 3) := by decide +kernel
theorem dL_plain_150 : decode cL_plain 150 = .ok (.ireturn, 1) := by decide +kernel
theorem dL_plain_151 : decode cL_plain 151 = .ok (.aload_n 0, 1) := by decide +kernel
theorem dL_plain_152 : decode cL_plain 152 = .ok (.iload_n 2, 1) := by decide +kernel
theorem dL_plain_153 : decode cL_plain 153 = .ok (.invokevirtual 37, 3) := by decide +kernel
theorem dL_plain_156 : decode cL_plain 156 = .ok (.ireturn, 1) := by decide +kernel
theorem dL_plain_157 : decode cL_plain 157 = .ok (.aload_n 0, 1) := by decide +kernel
theorem dL_plain_158 : decode cL_plain 158 = .ok (.iload_n 2, 1) := by decide +kernel
theorem dL_plain_159 : decode cL_plain 159 = .ok (.invokevirtual 40, 3) := by decide +kernel
theorem dL_plain_162 : decode cL_plain 162 = .ok (.invokestatic 44, 3) := by decide +kernel
theorem dL_plain_165 : decode cL_plain 165 = .ok (.ireturn, 1) := by decide +kernel
theorem dL_plain_166 : decode cL_plain 166 = .ok (.aload_n 0, 1) := by decide +kernel
theorem dL_plain_167 : decode cL_plain 167 = .ok (.iload_n 2, 1) := by decide +kernel
theorem dL_plain_168 : decode cL_plain 168 = .ok (.iload_n 3, 1) := by decide +kernel
theorem dL_plain_169 : decode cL_plain 169 = .ok (.iload 4, 2) := by decide +kernel
theorem dL_plain_171 : decode cL_plain 171 = .ok (.iload 5, 2) := by decide +kernel
theorem dL_plain_173 : decode cL_plain 173 = .ok (.invokevirtual 48, 3) := by decide +kernel
theorem dL_plain_176 : decode cL_plain 176 = .ok (.ireturn, 1) := by decide +kernel
theorem dL_plain_177 : decode cL_plain 177 = .ok (.aload_n 0, 1) := by decide +kernel
theorem dL_plain_178 : decode cL_plain 178 = .ok (.iload_n 2, 1) := by decide +kernel
theorem dL_plain_179 : decode cL_plain 179 = .ok (.iload_n 3, 1) := by decide +kernel
theorem dL_plain_180 : decode cL_plain 180 = .ok (.invokevirtual 52, 3) := by decide +kernel
theorem dL_plain_183 : decode cL_plain 183 = .ok (.invokestatic 44, 3) := by decide +kernel
theorem dL_plain_186 : decode cL_plain 186 = .ok (.ireturn, 1) := by decide +kernel
theorem dL_plain_187 : decode cL_plain 187 = .ok (.aload_n 0, 1) := by decide +kernel
theorem dL_plain_188 : decode cL_plain 188 = .ok (.iload_n 2, 1) := by decide +kernel
theorem dL_plain_189 : decode cL_plain 189 = .ok (.iload_n 3, 1) := by decide +kernel
theorem dL_plain_190 : decode cL_plain 190 = .ok (.invokevirtual 56, 3) := by decide +kernel
theorem dL_plain_193 : decode cL_plain 193 = .ok (.ireturn, 1) := by decide +kernel
theorem dL_plain_194 : decode cL_plain 194 = .ok (.aload_n 0, 1) := by decide +kernel
theorem dL_plain_195 : decode cL_plain 195 = .ok (.iload_n 2, 1) := by decide +kernel
theorem dL_plain_196 : decode cL_plain 196 = .ok (.iload_n 3, 1) := by decide +kernel
theorem dL_plain_197 : decode cL_plain 197 = .ok (.invokevirtual 59, 3) := by decide +kernel
theorem dL_plain_200 : decode cL_plain 200 = .ok (.ireturn, 1) := by decide +kernel
theorem dL_plain_201 : decode cL_plain 201 = .ok (.aload_n 0, 1) := by decide +kernel
theorem dL_plain_202 : decode cL_plain 202 = .ok (.iload_n 2, 1) := by decide +kernel
theorem dL_plain_203 : decode cL_plain 203 = .ok (.iload_n 3, 1) := by decide +kernel
theorem dL_plain_204 : decode cL_plain 204 = .ok (.iload 4, 2) := by decide +kernel
theorem dL_plain_206 : decode cL_plain 206 = .ok (.invokevirtual 62, 3) := by decide +kernel
theorem dL_plain_209 : decode cL_plain 209 = .ok (.ireturn, 1) := by decide +kernel
theorem dL_plain_210 : decode cL_plain 210 = .ok (.aload_n 0, 1) := by decide +kernel
theorem dL_plain_211 : decode cL_plain 211 = .ok (.iload_n 2, 1) := by decide +kernel
theorem dL_plain_212 : decode cL_plain 212 = .ok (.invokevirtual 65, 3) := by decide +kernel
theorem dL_plain_215 : decode cL_plain 215 = .ok (.ireturn, 1) := by decide +kernel
theorem dL_plain_216 : decode cL_plain 216 = .ok (.aload_n 0, 1) := by decide +kernel
theorem dL_plain_217 : decode cL_plain 217 = .ok (.iload_n 2, 1) := by decide +kernel
theorem dL_plain_218 : decode cL_plain 218 = .ok (.iload_n 3, 1) := by decide +kernel
theorem dL_plain_219 : decode cL_plain 219 = .ok (.invokevirtual 68, 3) := by decide +kernel
theorem dL_plain_222 : decode cL_plain 222 = .ok (.ireturn, 1) := by decide +kernel
theorem dL_plain_223 : decode cL_plain 223 = .ok (.aload_n 0, 1) := by decide +kernel
theorem dL_plain_224 : decode cL_plain 224 = .ok (.iload_n 2, 1) := by decide +kernel
theorem dL_plain_225 : decode cL_plain 225 = .ok (.invokevirtual 71, 3) := by decide +kernel
theorem dL_plain_228 : decode cL_plain 228 = .ok (.invokestatic 44, 3) := by decide +kernel
theorem dL_plain_231 : decode cL_plain 231 = .ok (.ireturn, 1) := by decide +kernel
theorem dL_plain_232 : decode cL_plain 232 = .ok (.aload_n 0, 1) := by decide +kernel
theorem dL_plain_233 : decode cL_plain 233 = .ok (.iload_n 2, 1) := by decide +kernel
theorem dL_plain_234 : decode cL_plain 234 = .ok (.iload_n 3, 1) := by decide +kernel
theorem dL_plain_235 : decode cL_plain 235 = .ok (.invokevirtual 74, 3) := by decide +kernel
theorem dL_plain_238 : decode cL_plain 238 = .ok (.ireturn, 1) := by decide +kernel
theorem dL_plain_239 : decode cL_plain 239 = .ok (.aload_n 0, 1) := by decide +kernel
theorem dL_plain_240 : decode cL_plain 240 = .ok (.iload_n 2, 1) := by decide +kernel
theorem dL_plain_241 : decode cL_plain 241 = .ok (.iload_n 3, 1) := by decide +kernel
theorem dL_plain_242 : decode cL_plain 242 = .ok (.invokevirtual 77, 3) := by decide +kernel
theorem dL_plain_245 : decode cL_plain 245 = .ok (.ireturn, 1) := by decide +kernel
theorem dL_plain_246 : decode cL_plain 246 = .ok (.aload_n 0, 1) := by decide +kernel
theorem dL_plain_247 : decode cL_plain 247 = .ok (.iload_n 2, 1) := by decide +kernel
theorem dL_plain_248 : decode cL_plain 248 = .ok (.iload_n 3, 1) := by decide +kernel
theorem dL_plain_249 : decode cL_plain 249 = .ok (.invokevirtual 80, 3) := by decide +kernel
theorem dL_plain_252 : decode cL_plain 252 = .ok (.ireturn, 1) := by decide +kernel
theorem dL_plain_253 : decode cL_plain 253 = .ok (.aload_n 0, 1) := by decide +kernel
theorem dL_plain_254 : decode cL_plain 254 = .ok (.iload_n 2, 1) := by decide +kernel
theorem dL_plain_255 : decode cL_plain 255 = .ok (.iload_n 3, 1) := by decide +kernel
theorem dL_plain_256 : decode cL_plain 256 = .ok (.invokevirtual 83, 3) := by decide +kernel
theorem dL_plain_259 : decode cL_plain 259 = .ok (.ireturn, 1) := by decide +kernel
theorem dL_plain_260 : decode cL_plain 260 = .ok (.aload_n 0, 1) := by decide +kernel
theorem dL_plain_261 : decode cL_plain 261 = .ok (.iload_n 2, 1) := by decide +kernel
theorem dL_plain_262 : decode cL_plain 262 = .ok (.iload_n 3, 1) := by decide +kernel
theorem dL_plain_263 : decode cL_plain 263 = .ok (.iload 4, 2) := by decide +kernel
theorem dL_plain_265 : decode cL_plain 265 = .ok (.invokevirtual 86, 3) := by decide +kernel
theorem dL_plain_268 : decode cL_plain 268 = .ok (.ireturn, 1) := by decide +kernel
theorem dL_plain_269 : decode cL_plain 269 = .ok (.aload_n 0, 1) := by decide +kernel
theorem dL_plain_270 : decode cL_plain 270 = .ok (.iload_n 2, 1) := by decide +kernel
theorem dL_plain_271 : decode cL_plain 271 = .ok (.invokevirtual 89, 3) := by decide +kernel
theorem dL_plain_274 : decode cL_plain 274 = .ok (.ireturn, 1) := by decide +kernel
theorem dL_plain_275 : decode cL_plain 275 = .ok (.aload_n 0, 1) := by decide +kernel
theorem dL_plain_276 : decode cL_plain 276 = .ok (.iload_n 2, 1) := by decide +kernel
theorem dL_plain_277 : decode cL_plain 277 = .ok (.iload_n 3, 1) := by decide +kernel
theorem dL_plain_278 : decode cL_plain 278 = .ok (.iload 4, 2) := by decide +kernel
theorem dL_plain_280 : decode cL_plain 280 = .ok (.invokevirtual 92, 3) := by decide +kernel
theorem dL_plain_283 : decode cL_plain 283 = .ok (.ireturn, 1) := by decide +kernel
theorem dL_plain_284 : decode cL_plain 284 = .ok (.aload_n 0, 1) := by decide +kernel
theorem dL_plain_285 : decode cL_plain 285 = .ok (.iload_n 2, 1) := by decide +kernel
theorem dL_plain_286 : decode cL_plain 286 = .ok (.invokevirtual 95, 3) := by decide +kernel
theorem dL_plain_289 : decode cL_plain 289 = .ok (.ireturn, 1) := by decide +kernel
theorem dL_deed_0 : decode cL_deed 0 = .ok (.aload_n 0, 1) := by decide +kernel
theorem dL_deed_1 : decode cL_deed 1 = .ok (.iload_n 1, 1) := by decide +kernel
theorem dL_deed_2 : decode cL_deed 2 = .ok (.iload_n 2, 1) := by decide +kernel
theorem dL_deed_3 : decode cL_deed 3 = .ok (.iload_n 3, 1) := by decide +kernel
theorem dL_deed_4 : decode cL_deed 4 = .ok (.iload 4, 2) := by decide +kernel
theorem dL_deed_6 : decode cL_deed 6 = .ok (.iload 5, 2) := by decide +kernel
theorem dL_deed_8 : decode cL_deed 8 = .ok (.invokestatic 98, 3) := by decide +kernel
theorem dL_deed_11 : decode cL_deed 11 = .ok (.ireturn, 1) := by decide +kernel
theorem dL_deed_12 : decode cL_deed 12 = .ok (.astore 6, 2) := by decide +kernel
theorem dL_deed_14 : decode cL_deed 14 = .ok (.sipush (-2001), 3) := by decide +kernel
theorem dL_deed_17 : decode cL_deed 17 = .ok (.ireturn, 1) := by decide +kernel
theorem dL_deed_18 : decode cL_deed 18 = .ok (.astore 6, 2) := by decide +kernel
theorem dL_deed_20 : decode cL_deed 20 = .ok (.sipush (-2002), 3) := by decide +kernel
theorem dL_deed_23 : decode cL_deed 23 = .ok (.ireturn, 1) := by decide +kernel
theorem dL_deed_24 : decode cL_deed 24 = .ok (.astore 6, 2) := by decide +kernel
theorem dL_deed_26 : decode cL_deed 26 = .ok (.sipush (-2004), 3) := by decide +kernel
theorem dL_deed_29 : decode cL_deed 29 = .ok (.ireturn, 1) := by decide +kernel
theorem dL_deed_30 : decode cL_deed 30 = .ok (.astore 6, 2) := by decide +kernel
theorem dL_deed_32 : decode cL_deed 32 = .ok (.sipush (-2006), 3) := by decide +kernel
theorem dL_deed_35 : decode cL_deed 35 = .ok (.ireturn, 1) := by decide +kernel
theorem dL_deed_36 : decode cL_deed 36 = .ok (.astore 6, 2) := by decide +kernel
theorem dL_deed_38 : decode cL_deed 38 = .ok (.sipush (-2003), 3) := by decide +kernel
theorem dL_deed_41 : decode cL_deed 41 = .ok (.ireturn, 1) := by decide +kernel
theorem dL_ask_0 : decode cL_ask 0 = .ok (.aload_n 0, 1) := by decide +kernel
theorem dL_ask_1 : decode cL_ask 1 = .ok (.iload_n 1, 1) := by decide +kernel
theorem dL_ask_2 : decode cL_ask 2 = .ok (.iload_n 2, 1) := by decide +kernel
theorem dL_ask_3 : decode cL_ask 3 = .ok (.iconst 0, 1) := by decide +kernel
theorem dL_ask_4 : decode cL_ask 4 = .ok (.iconst 0, 1) := by decide +kernel
theorem dL_ask_5 : decode cL_ask 5 = .ok (.iconst 0, 1) := by decide +kernel
theorem dL_ask_6 : decode cL_ask 6 = .ok (.invokestatic 112, 3) := by decide +kernel
theorem dL_ask_9 : decode cL_ask 9 = .ok (.ireturn, 1) := by decide +kernel
theorem dL_shifted_0 : decode cL_shifted 0 = .ok (.iload_n 0, 1) := by decide +kernel
theorem dL_shifted_1 : decode cL_shifted 1 = .ok (.istore_n 2, 1) := by decide +kernel
theorem dL_shifted_2 : decode cL_shifted 2 = .ok (.iconst 0, 1) := by decide +kernel
theorem dL_shifted_3 : decode cL_shifted 3 = .ok (.istore_n 3, 1) := by decide +kernel
theorem dL_shifted_4 : decode cL_shifted 4 = .ok (.iload_n 3, 1) := by decide +kernel
theorem dL_shifted_5 : decode cL_shifted 5 = .ok (.iload_n 1, 1) := by decide +kernel
theorem dL_shifted_6 : decode cL_shifted 6 = .ok (.if_icmp .ge 24, 3) := by decide +kernel
theorem dL_shifted_9 : decode cL_shifted 9 = .ok (.iload_n 2, 1) := by decide +kernel
theorem dL_shifted_10 : decode cL_shifted 10 = .ok (.ldc 115, 2) := by decide +kernel
theorem dL_shifted_12 : decode cL_shifted 12 = .ok (.iand, 1) := by decide +kernel
theorem dL_shifted_13 : decode cL_shifted 13 = .ok (.iconst 1, 1) := by decide +kernel
theorem dL_shifted_14 : decode cL_shifted 14 = .ok (.ishl, 1) := by decide +kernel
theorem dL_shifted_15 : decode cL_shifted 15 = .ok (.iload_n 2, 1) := by decide +kernel
theorem dL_shifted_16 : decode cL_shifted 16 = .ok (.bipush 7, 2) := by decide +kernel
theorem dL_shifted_18 : decode cL_shifted 18 = .ok (.iushr, 1) := by decide +kernel
theorem dL_shifted_19 : decode cL_shifted 19 = .ok (.ldc 116, 2) := by decide +kernel
theorem dL_shifted_21 : decode cL_shifted 21 = .ok (.iand, 1) := by decide +kernel
theorem dL_shifted_22 : decode cL_shifted 22 = .ok (.ior, 1) := by decide +kernel
theorem dL_shifted_23 : decode cL_shifted 23 = .ok (.istore_n 2, 1) := by decide +kernel
theorem dL_shifted_24 : decode cL_shifted 24 = .ok (.iinc 3 1, 3) := by decide +kernel
theorem dL_shifted_27 : decode cL_shifted 27 = .ok (.goto (-23), 3) := by decide +kernel
theorem dL_shifted_30 : decode cL_shifted 30 = .ok (.iload_n 2, 1) := by decide +kernel
theorem dL_shifted_31 : decode cL_shifted 31 = .ok (.ireturn, 1) := by decide +kernel
theorem dL_seen_0 : decode cL_seen 0 = .ok (.iconst 0, 1) := by decide +kernel
theorem dL_seen_1 : decode cL_seen 1 = .ok (.istore_n 2, 1) := by decide +kernel
theorem dL_seen_2 : decode cL_seen 2 = .ok (.iconst 0, 1) := by decide +kernel
theorem dL_seen_3 : decode cL_seen 3 = .ok (.istore_n 3, 1) := by decide +kernel
theorem dL_seen_4 : decode cL_seen 4 = .ok (.iload_n 3, 1) := by decide +kernel
theorem dL_seen_5 : decode cL_seen 5 = .ok (.bipush 32, 2) := by decide +kernel
theorem dL_seen_7 : decode cL_seen 7 = .ok (.if_icmp .ge 29, 3) := by decide +kernel
theorem dL_seen_10 : decode cL_seen 10 = .ok (.iload_n 2, 1) := by decide +kernel
theorem dL_seen_11 : decode cL_seen 11 = .ok (.aload_n 0, 1) := by decide +kernel
theorem dL_seen_12 : decode cL_seen 12 = .ok (.iconst 3, 1) := by decide +kernel
theorem dL_seen_13 : decode cL_seen 13 = .ok (.iload_n 1, 1) := by decide +kernel
theorem dL_seen_14 : decode cL_seen 14 = .ok (.iload_n 3, 1) := by decide +kernel
theorem dL_seen_15 : decode cL_seen 15 = .ok (.bipush 8, 2) := by decide +kernel
theorem dL_seen_17 : decode cL_seen 17 = .ok (.irem, 1) := by decide +kernel
theorem dL_seen_18 : decode cL_seen 18 = .ok (.iload_n 3, 1) := by decide +kernel
theorem dL_seen_19 : decode cL_seen 19 = .ok (.bipush 8, 2) := by decide +kernel
theorem dL_seen_21 : decode cL_seen 21 = .ok (.idiv, 1) := by decide +kernel
theorem dL_seen_22 : decode cL_seen 22 = .ok (.iconst 0, 1) := by decide +kernel
theorem dL_seen_23 : decode cL_seen 23 = .ok (.invokestatic 112, 3) := by decide +kernel
theorem dL_seen_26 : decode cL_seen 26 = .ok (.iload_n 3, 1) := by decide +kernel
theorem dL_seen_27 : decode cL_seen 27 = .ok (.ishl, 1) := by decide +kernel
theorem dL_seen_28 : decode cL_seen 28 = .ok (.ior, 1) := by decide +kernel
theorem dL_seen_29 : decode cL_seen 29 = .ok (.istore_n 2, 1) := by decide +kernel
theorem dL_seen_30 : decode cL_seen 30 = .ok (.iinc 3 1, 3) := by decide +kernel
theorem dL_seen_33 : decode cL_seen 33 = .ok (.goto (-29), 3) := by decide +kernel
theorem dL_seen_36 : decode cL_seen 36 = .ok (.iload_n 2, 1) := by decide +kernel
theorem dL_seen_37 : decode cL_seen 37 = .ok (.ireturn, 1) := by decide +kernel
theorem dL_word_0 : decode cL_word 0 = .ok (.aload_n 0, 1) := by decide +kernel
theorem dL_word_1 : decode cL_word 1 = .ok (.iload_n 1, 1) := by decide +kernel
theorem dL_word_2 : decode cL_word 2 = .ok (.iconst 3, 1) := by decide +kernel
theorem dL_word_3 : decode cL_word 3 = .ok (.invokestatic 117, 3) := by decide +kernel
theorem dL_word_6 : decode cL_word 6 = .ok (.istore_n 2, 1) := by decide +kernel
theorem dL_word_7 : decode cL_word 7 = .ok (.iload_n 2, 1) := by decide +kernel
theorem dL_word_8 : decode cL_word 8 = .ok (.ifCond .ne 13, 3) := by decide +kernel
theorem dL_word_11 : decode cL_word 11 = .ok (.aload_n 0, 1) := by decide +kernel
theorem dL_word_12 : decode cL_word 12 = .ok (.iload_n 1, 1) := by decide +kernel
theorem dL_word_13 : decode cL_word 13 = .ok (.iconst 1, 1) := by decide +kernel
theorem dL_word_14 : decode cL_word 14 = .ok (.iadd, 1) := by decide +kernel
theorem dL_word_15 : decode cL_word 15 = .ok (.invokestatic 9, 3) := by decide +kernel
theorem dL_word_18 : decode cL_word 18 = .ok (.goto 37, 3) := by decide +kernel
theorem dL_word_21 : decode cL_word 21 = .ok (.iload_n 2, 1) := by decide +kernel
theorem dL_word_22 : decode cL_word 22 = .ok (.iconst 1, 1) := by decide +kernel
theorem dL_word_23 : decode cL_word 23 = .ok (.if_icmp .ne 21, 3) := by decide +kernel
theorem dL_word_26 : decode cL_word 26 = .ok (.aload_n 0, 1) := by decide +kernel
theorem dL_word_27 : decode cL_word 27 = .ok (.iload_n 1, 1) := by decide +kernel
theorem dL_word_28 : decode cL_word 28 = .ok (.iconst 1, 1) := by decide +kernel
theorem dL_word_29 : decode cL_word 29 = .ok (.iadd, 1) := by decide +kernel
theorem dL_word_30 : decode cL_word 30 = .ok (.invokestatic 9, 3) := by decide +kernel
theorem dL_word_33 : decode cL_word 33 = .ok (.aload_n 0, 1) := by decide +kernel
theorem dL_word_34 : decode cL_word 34 = .ok (.iload_n 1, 1) := by decide +kernel
theorem dL_word_35 : decode cL_word 35 = .ok (.iconst 2, 1) := by decide +kernel
theorem dL_word_36 : decode cL_word 36 = .ok (.iadd, 1) := by decide +kernel
theorem dL_word_37 : decode cL_word 37 = .ok (.invokestatic 9, 3) := by decide +kernel
theorem dL_word_40 : decode cL_word 40 = .ok (.iand, 1) := by decide +kernel
theorem dL_word_41 : decode cL_word 41 = .ok (.goto 14, 3) := by decide +kernel
theorem dL_word_44 : decode cL_word 44 = .ok (.iconst 1, 1) := by decide +kernel
theorem dL_word_45 : decode cL_word 45 = .ok (.aload_n 0, 1) := by decide +kernel
theorem dL_word_46 : decode cL_word 46 = .ok (.iload_n 1, 1) := by decide +kernel
theorem dL_word_47 : decode cL_word 47 = .ok (.iconst 1, 1) := by decide +kernel
theorem dL_word_48 : decode cL_word 48 = .ok (.iadd, 1) := by decide +kernel
theorem dL_word_49 : decode cL_word 49 = .ok (.bipush 32, 2) := by decide +kernel
theorem dL_word_51 : decode cL_word 51 = .ok (.invokestatic 117, 3) := by decide +kernel
theorem dL_word_54 : decode cL_word 54 = .ok (.ishl, 1) := by decide +kernel
theorem dL_word_55 : decode cL_word 55 = .ok (.istore_n 3, 1) := by decide +kernel
theorem dL_word_56 : decode cL_word 56 = .ok (.iload_n 3, 1) := by decide +kernel
theorem dL_word_57 : decode cL_word 57 = .ok (.ifCond .ne 7, 3) := by decide +kernel
theorem dL_word_60 : decode cL_word 60 = .ok (.iconst 1, 1) := by decide +kernel
theorem dL_word_61 : decode cL_word 61 = .ok (.goto 4, 3) := by decide +kernel
theorem dL_word_64 : decode cL_word 64 = .ok (.iload_n 3, 1) := by decide +kernel
theorem dL_word_65 : decode cL_word 65 = .ok (.ireturn, 1) := by decide +kernel
theorem dL_isRight_0 : decode cL_isRight 0 = .ok (.lconst 0, 1) := by decide +kernel
theorem dL_isRight_1 : decode cL_isRight 1 = .ok (.lstore_n 3, 1) := by decide +kernel
theorem dL_isRight_2 : decode cL_isRight 2 = .ok (.lconst 0, 1) := by decide +kernel
theorem dL_isRight_3 : decode cL_isRight 3 = .ok (.lstore 5, 2) := by decide +kernel
theorem dL_isRight_5 : decode cL_isRight 5 = .ok (.iconst 0, 1) := by decide +kernel
theorem dL_isRight_6 : decode cL_isRight 6 = .ok (.istore 7, 2) := by decide +kernel
theorem dL_isRight_8 : decode cL_isRight 8 = .ok (.iconst 0, 1) := by decide +kernel
theorem dL_isRight_9 : decode cL_isRight 9 = .ok (.istore 8, 2) := by decide +kernel
theorem dL_isRight_11 : decode cL_isRight 11 = .ok (.iload 8, 2) := by decide +kernel
theorem dL_isRight_13 : decode cL_isRight 13 = .ok (.iconst 4, 1) := by decide +kernel
theorem dL_isRight_14 : decode cL_isRight 14 = .ok (.if_icmp .ge 377, 3) := by decide +kernel
theorem dL_isRight_17 : decode cL_isRight 17 = .ok (.aload_n 0, 1) := by decide +kernel
theorem dL_isRight_18 : decode cL_isRight 18 = .ok (.iconst 5, 1) := by decide +kernel
theorem dL_isRight_19 : decode cL_isRight 19 = .ok (.iload 8, 2) := by decide +kernel
theorem dL_isRight_21 : decode cL_isRight 21 = .ok (.invokestatic 121, 3) := by decide +kernel
theorem dL_isRight_24 : decode cL_isRight 24 = .ok (.istore 9, 2) := by decide +kernel
theorem dL_isRight_26 : decode cL_isRight 26 = .ok (.aload_n 0, 1) := by decide +kernel
theorem dL_isRight_27 : decode cL_isRight 27 = .ok (.iload 8, 2) := by decide +kernel
theorem dL_isRight_29 : decode cL_isRight 29 = .ok (.invokestatic 125, 3) := by decide +kernel
theorem dL_isRight_32 : decode cL_isRight 32 = .ok (.istore 10, 2) := by decide +kernel
theorem dL_isRight_34 : decode cL_isRight 34 = .ok (.iconst 0, 1) := by decide +kernel
theorem dL_isRight_35 : decode cL_isRight 35 = .ok (.istore 11, 2) := by decide +kernel
theorem dL_isRight_37 : decode cL_isRight 37 = .ok (.iload 9, 2) := by decide +kernel
theorem dL_isRight_39 : decode cL_isRight 39 = .ok (.iconst (-1), 1) := by decide +kernel
theorem dL_isRight_40 : decode cL_isRight 40 = .ok (.if_icmp .ne 27, 3) := by decide +kernel
theorem dL_isRight_43 : decode cL_isRight 43 = .ok (.iload 10, 2) := by decide +kernel
theorem dL_isRight_45 : decode cL_isRight 45 = .ok (.ifCond .ne 18, 3) := by decide +kernel
theorem dL_isRight_48 : decode cL_isRight 48 = .ok (.aload_n 0, 1) := by decide +kernel
theorem dL_isRight_49 : decode cL_isRight 49 = .ok (.bipush 6, 2) := by decide +kernel
theorem dL_isRight_51 : decode cL_isRight 51 = .ok (.iload 8, 2) := by decide +kernel
theorem dL_isRight_53 : decode cL_isRight 53 = .ok (.invokestatic 121, 3) := by decide +kernel
theorem dL_isRight_56 : decode cL_isRight 56 = .ok (.ifCond .ne 7, 3) := by decide +kernel
theorem dL_isRight_59 : decode cL_isRight 59 = .ok (.iconst 1, 1) := by decide +kernel
theorem dL_isRight_60 : decode cL_isRight 60 = .ok (.goto 32, 3) := by decide +kernel
theorem dL_isRight_63 : decode cL_isRight 63 = .ok (.iconst 0, 1) := by decide +kernel
theorem dL_isRight_64 : decode cL_isRight 64 = .ok (.goto 28, 3) := by decide +kernel
theorem dL_isRight_67 : decode cL_isRight 67 = .ok (.iload 10, 2) := by decide +kernel
theorem dL_isRight_69 : decode cL_isRight 69 = .ok (.aload_n 1, 1) := by decide +kernel
theorem dL_isRight_70 : decode cL_isRight 70 = .ok (.iload 9, 2) := by decide +kernel
theorem dL_isRight_72 : decode cL_isRight 72 = .ok (.iaload, 1) := by decide +kernel
theorem dL_isRight_73 : decode cL_isRight 73 = .ok (.aload_n 0, 1) := by decide +kernel
theorem dL_isRight_74 : decode cL_isRight 74 = .ok (.bipush 6, 2) := by decide +kernel
theorem dL_isRight_76 : decode cL_isRight 76 = .ok (.iload 8, 2) := by decide +kernel
theorem dL_isRight_78 : decode cL_isRight 78 = .ok (.invokestatic 121, 3) := by decide +kernel
theorem dL_isRight_81 : decode cL_isRight 81 = .ok (.invokestatic 129, 3) := by decide +kernel
theorem dL_isRight_84 : decode cL_isRight 84 = .ok (.if_icmp .ne 7, 3) := by decide +kernel
theorem dL_isRight_87 : decode cL_isRight 87 = .ok (.iconst 1, 1) := by decide +kernel
theorem dL_isRight_88 : decode cL_isRight 88 = .ok (.goto 4, 3) := by decide +kernel
theorem dL_isRight_91 : decode cL_isRight 91 = .ok (.iconst 0, 1) := by decide +kernel
theorem dL_isRight_92 : decode cL_isRight 92 = .ok (.istore 12, 2) := by decide +kernel
theorem dL_isRight_94 : decode cL_isRight 94 = .ok (.iconst 0, 1) := by decide +kernel
theorem dL_isRight_95 : decode cL_isRight 95 = .ok (.istore 13, 2) := by decide +kernel
theorem dL_isRight_97 : decode cL_isRight 97 = .ok (.iload 13, 2) := by decide +kernel
theorem dL_isRight_99 : decode cL_isRight 99 = .ok (.bipush 32, 2) := by decide +kernel
theorem dL_isRight_101 : decode cL_isRight 101 = .ok (.if_icmp .ge 128, 3) := by decide +kernel
theorem dL_isRight_104 : decode cL_isRight 104 = .ok (.aload_n 0, 1) := by decide +kernel
theorem dL_isRight_105 : decode cL_isRight 105 = .ok (.iconst 4, 1) := by decide +kernel
theorem dL_isRight_106 : decode cL_isRight 106 = .ok (.iload 8, 2) := by decide +kernel
theorem dL_isRight_108 : decode cL_isRight 108 = .ok (.iload 13, 2) := by decide +kernel
theorem dL_isRight_110 : decode cL_isRight 110 = .ok (.bipush 8, 2) := by decide +kernel
theorem dL_isRight_112 : decode cL_isRight 112 = .ok (.irem, 1) := by decide +kernel
theorem dL_isRight_113 : decode cL_isRight 113 = .ok (.iload 13, 2) := by decide +kernel
theorem dL_isRight_115 : decode cL_isRight 115 = .ok (.bipush 8, 2) := by decide +kernel
theorem dL_isRight_117 : decode cL_isRight 117 = .ok (.idiv, 1) := by decide +kernel
theorem dL_isRight_118 : decode cL_isRight 118 = .ok (.iconst 0, 1) := by decide +kernel
theorem dL_isRight_119 : decode cL_isRight 119 = .ok (.invokestatic 112, 3) := by decide +kernel
theorem dL_isRight_122 : decode cL_isRight 122 = .ok (.istore 14, 2) := by decide +kernel
theorem dL_isRight_124 : decode cL_isRight 124 = .ok (.iload 10, 2) := by decide +kernel
theorem dL_isRight_126 : decode cL_isRight 126 = .ok (.iload 13, 2) := by decide +kernel
theorem dL_isRight_128 : decode cL_isRight 128 = .ok (.iushr, 1) := by decide +kernel
theorem dL_isRight_129 : decode cL_isRight 129 = .ok (.iconst 1, 1) := by decide +kernel
theorem dL_isRight_130 : decode cL_isRight 130 = .ok (.iand, 1) := by decide +kernel
theorem dL_isRight_131 : decode cL_isRight 131 = .ok (.istore 15, 2) := by decide +kernel
theorem dL_isRight_133 : decode cL_isRight 133 = .ok (.iload 11, 2) := by decide +kernel
theorem dL_isRight_135 : decode cL_isRight 135 = .ok (.iload 14, 2) := by decide +kernel
theorem dL_isRight_137 : decode cL_isRight 137 = .ok (.invokestatic 132, 3) := by decide +kernel
theorem dL_isRight_140 : decode cL_isRight 140 = .ok (.istore 11, 2) := by decide +kernel
theorem dL_isRight_142 : decode cL_isRight 142 = .ok (.lload 5, 2) := by decide +kernel
theorem dL_isRight_144 : decode cL_isRight 144 = .ok (.iload 14, 2) := by decide +kernel
theorem dL_isRight_146 : decode cL_isRight 146 = .ok (.i2l, 1) := by decide +kernel
theorem dL_isRight_147 : decode cL_isRight 147 = .ok (.ladd, 1) := by decide +kernel
theorem dL_isRight_148 : decode cL_isRight 148 = .ok (.lstore 5, 2) := by decide +kernel
theorem dL_isRight_150 : decode cL_isRight 150 = .ok (.ldc2_w 137, 3) := by decide +kernel
theorem dL_isRight_153 : decode cL_isRight 153 = .ok (.lload_n 3, 1) := by decide +kernel
theorem dL_isRight_154 : decode cL_isRight 154 = .ok (.lmul, 1) := by decide +kernel
theorem dL_isRight_155 : decode cL_isRight 155 = .ok (.iload 15, 2) := by decide +kernel
theorem dL_isRight_157 : decode cL_isRight 157 = .ok (.i2l, 1) := by decide +kernel
theorem dL_isRight_158 : decode cL_isRight 158 = .ok (.ladd, 1) := by decide +kernel
theorem dL_isRight_159 : decode cL_isRight 159 = .ok (.ldc2_w 139, 3) := by decide +kernel
theorem dL_isRight_162 : decode cL_isRight 162 = .ok (.iload 14, 2) := by decide +kernel
theorem dL_isRight_164 : decode cL_isRight 164 = .ok (.i2l, 1) := by decide +kernel
theorem dL_isRight_165 : decode cL_isRight 165 = .ok (.lmul, 1) := by decide +kernel
theorem dL_isRight_166 : decode cL_isRight 166 = .ok (.ladd, 1) := by decide +kernel
theorem dL_isRight_167 : decode cL_isRight 167 = .ok (.lstore_n 3, 1) := by decide +kernel
theorem dL_isRight_168 : decode cL_isRight 168 = .ok (.iload 12, 2) := by decide +kernel
theorem dL_isRight_170 : decode cL_isRight 170 = .ok (.ifCond .eq 50, 3) := by decide +kernel
theorem dL_isRight_173 : decode cL_isRight 173 = .ok (.iload 14, 2) := by decide +kernel
theorem dL_isRight_175 : decode cL_isRight 175 = .ok (.iload 15, 2) := by decide +kernel
theorem dL_isRight_177 : decode cL_isRight 177 = .ok (.iadd, 1) := by decide +kernel
theorem dL_isRight_178 : decode cL_isRight 178 = .ok (.bipush 60, 2) := by decide +kernel
theorem dL_isRight_180 : decode cL_isRight 180 = .ok (.if_icmp .gt 40, 3) := by decide +kernel
theorem dL_isRight_183 : decode cL_isRight 183 = .ok (.aload_n 0, 1) := by decide +kernel
theorem dL_isRight_184 : decode cL_isRight 184 = .ok (.bipush 22, 2) := by decide +kernel
theorem dL_isRight_186 : decode cL_isRight 186 = .ok (.iload 8, 2) := by decide +kernel
theorem dL_isRight_188 : decode cL_isRight 188 = .ok (.iload 13, 2) := by decide +kernel
theorem dL_isRight_190 : decode cL_isRight 190 = .ok (.bipush 8, 2) := by decide +kernel
theorem dL_isRight_192 : decode cL_isRight 192 = .ok (.irem, 1) := by decide +kernel
theorem dL_isRight_193 : decode cL_isRight 193 = .ok (.iload 13, 2) := by decide +kernel
theorem dL_isRight_195 : decode cL_isRight 195 = .ok (.bipush 8, 2) := by decide +kernel
theorem dL_isRight_197 : decode cL_isRight 197 = .ok (.idiv, 1) := by decide +kernel
theorem dL_isRight_198 : decode cL_isRight 198 = .ok (.iconst 0, 1) := by decide +kernel
theorem dL_isRight_199 : decode cL_isRight 199 = .ok (.invokestatic 112, 3) := by decide +kernel
theorem dL_isRight_202 : decode cL_isRight 202 = .ok (.iload 15, 2) := by decide +kernel
theorem dL_isRight_204 : decode cL_isRight 204 = .ok (.if_icmp .ne 16, 3) := by decide +kernel
theorem dL_isRight_207 : decode cL_isRight 207 = .ok (.iload 14, 2) := by decide +kernel
theorem dL_isRight_209 : decode cL_isRight 209 = .ok (.iconst 2, 1) := by decide +kernel
theorem dL_isRight_210 : decode cL_isRight 210 = .ok (.irem, 1) := by decide +kernel
theorem dL_isRight_211 : decode cL_isRight 211 = .ok (.iload 15, 2) := by decide +kernel
theorem dL_isRight_213 : decode cL_isRight 213 = .ok (.if_icmp .ne 7, 3) := by decide +kernel
theorem dL_isRight_216 : decode cL_isRight 216 = .ok (.iconst 1, 1) := by decide +kernel
theorem dL_isRight_217 : decode cL_isRight 217 = .ok (.goto 4, 3) := by decide +kernel
theorem dL_isRight_220 : decode cL_isRight 220 = .ok (.iconst 0, 1) := by decide +kernel
theorem dL_isRight_221 : decode cL_isRight 221 = .ok (.istore 12, 2) := by decide +kernel
theorem dL_isRight_223 : decode cL_isRight 223 = .ok (.iinc 13 1, 3) := by decide +kernel
theorem dL_isRight_226 : decode cL_isRight 226 = .ok (.goto (-129), 3) := by decide +kernel
theorem dL_isRight_229 : decode cL_isRight 229 = .ok (.iload 12, 2) := by decide +kernel
theorem dL_isRight_231 : decode cL_isRight 231 = .ok (.ifCond .eq 48, 3) := by decide +kernel
theorem dL_isRight_234 : decode cL_isRight 234 = .ok (.aload_n 0, 1) := by decide +kernel
theorem dL_isRight_235 : decode cL_isRight 235 = .ok (.bipush 23, 2) := by decide +kernel
theorem dL_isRight_237 : decode cL_isRight 237 = .ok (.iload 8, 2) := by decide +kernel
theorem dL_isRight_239 : decode cL_isRight 239 = .ok (.invokestatic 121, 3) := by decide +kernel
theorem dL_isRight_242 : decode cL_isRight 242 = .ok (.iload 11, 2) := by decide +kernel
theorem dL_isRight_244 : decode cL_isRight 244 = .ok (.if_icmp .ne 35, 3) := by decide +kernel
theorem dL_isRight_247 : decode cL_isRight 247 = .ok (.aload_n 0, 1) := by decide +kernel
theorem dL_isRight_248 : decode cL_isRight 248 = .ok (.iconst 2, 1) := by decide +kernel
theorem dL_isRight_249 : decode cL_isRight 249 = .ok (.iload 8, 2) := by decide +kernel
theorem dL_isRight_251 : decode cL_isRight 251 = .ok (.invokestatic 121, 3) := by decide +kernel
theorem dL_isRight_254 : decode cL_isRight 254 = .ok (.iload 10, 2) := by decide +kernel
theorem dL_isRight_256 : decode cL_isRight 256 = .ok (.invokestatic 141, 3) := by decide +kernel
theorem dL_isRight_259 : decode cL_isRight 259 = .ok (.if_icmp .lt 20, 3) := by decide +kernel
theorem dL_isRight_262 : decode cL_isRight 262 = .ok (.aload_n 0, 1) := by decide +kernel
theorem dL_isRight_263 : decode cL_isRight 263 = .ok (.iconst 2, 1) := by decide +kernel
theorem dL_isRight_264 : decode cL_isRight 264 = .ok (.iload 8, 2) := by decide +kernel
theorem dL_isRight_266 : decode cL_isRight 266 = .ok (.invokestatic 121, 3) := by decide +kernel
theorem dL_isRight_269 : decode cL_isRight 269 = .ok (.sipush 200, 3) := by decide +kernel
theorem dL_isRight_272 : decode cL_isRight 272 = .ok (.if_icmp .gt 7, 3) := by decide +kernel
theorem dL_isRight_275 : decode cL_isRight 275 = .ok (.iconst 1, 1) := by decide +kernel
theorem dL_isRight_276 : decode cL_isRight 276 = .ok (.goto 4, 3) := by decide +kernel
theorem dL_isRight_279 : decode cL_isRight 279 = .ok (.iconst 0, 1) := by decide +kernel
theorem dL_isRight_280 : decode cL_isRight 280 = .ok (.istore 12, 2) := by decide +kernel
theorem dL_isRight_282 : decode cL_isRight 282 = .ok (.iload 9, 2) := by decide +kernel
theorem dL_isRight_284 : decode cL_isRight 284 = .ok (.iconst (-1), 1) := by decide +kernel
theorem dL_isRight_285 : decode cL_isRight 285 = .ok (.if_icmp .eq 93, 3) := by decide +kernel
theorem dL_isRight_288 : decode cL_isRight 288 = .ok (.iinc 7 1, 3) := by decide +kernel
theorem dL_isRight_291 : decode cL_isRight 291 = .ok (.iconst 0, 1) := by decide +kernel
theorem dL_isRight_292 : decode cL_isRight 292 = .ok (.istore 13, 2) := by decide +kernel
theorem dL_isRight_294 : decode cL_isRight 294 = .ok (.iconst 0, 1) := by decide +kernel
theorem dL_isRight_295 : decode cL_isRight 295 = .ok (.istore 14, 2) := by decide +kernel
theorem dL_isRight_297 : decode cL_isRight 297 = .ok (.iload 14, 2) := by decide +kernel
theorem dL_isRight_299 : decode cL_isRight 299 = .ok (.aload_n 0, 1) := by decide +kernel
theorem dL_isRight_300 : decode cL_isRight 300 = .ok (.bipush 13, 2) := by decide +kernel
theorem dL_isRight_302 : decode cL_isRight 302 = .ok (.aload_n 2, 1) := by decide +kernel
theorem dL_isRight_303 : decode cL_isRight 303 = .ok (.iload 8, 2) := by decide +kernel
theorem dL_isRight_305 : decode cL_isRight 305 = .ok (.iaload, 1) := by decide +kernel
theorem dL_isRight_306 : decode cL_isRight 306 = .ok (.invokestatic 121, 3) := by decide +kernel
theorem dL_isRight_309 : decode cL_isRight 309 = .ok (.if_icmp .ge 40, 3) := by decide +kernel
theorem dL_isRight_312 : decode cL_isRight 312 = .ok (.iload 13, 2) := by decide +kernel
theorem dL_isRight_314 : decode cL_isRight 314 = .ok (.ifCond .ne 22, 3) := by decide +kernel
theorem dL_isRight_317 : decode cL_isRight 317 = .ok (.aload_n 0, 1) := by decide +kernel
theorem dL_isRight_318 : decode cL_isRight 318 = .ok (.bipush 14, 2) := by decide +kernel
theorem dL_isRight_320 : decode cL_isRight 320 = .ok (.aload_n 2, 1) := by decide +kernel
theorem dL_isRight_321 : decode cL_isRight 321 = .ok (.iload 8, 2) := by decide +kernel
theorem dL_isRight_323 : decode cL_isRight 323 = .ok (.iaload, 1) := by decide +kernel
theorem dL_isRight_324 : decode cL_isRight 324 = .ok (.iload 14, 2) := by decide +kernel
theorem dL_isRight_326 : decode cL_isRight 326 = .ok (.iconst 0, 1) := by decide +kernel
theorem dL_isRight_327 : decode cL_isRight 327 = .ok (.iconst 0, 1) := by decide +kernel
theorem dL_isRight_328 : decode cL_isRight 328 = .ok (.invokestatic 112, 3) := by decide +kernel
theorem dL_isRight_331 : decode cL_isRight 331 = .ok (.iload 9, 2) := by decide +kernel
theorem dL_isRight_333 : decode cL_isRight 333 = .ok (.if_icmp .ne 7, 3) := by decide +kernel
theorem dL_isRight_336 : decode cL_isRight 336 = .ok (.iconst 1, 1) := by decide +kernel
theorem dL_isRight_337 : decode cL_isRight 337 = .ok (.goto 4, 3) := by decide +kernel
theorem dL_isRight_340 : decode cL_isRight 340 = .ok (.iconst 0, 1) := by decide +kernel
theorem dL_isRight_341 : decode cL_isRight 341 = .ok (.istore 13, 2) := by decide +kernel
theorem dL_isRight_343 : decode cL_isRight 343 = .ok (.iinc 14 1, 3) := by decide +kernel
theorem dL_isRight_346 : decode cL_isRight 346 = .ok (.goto (-49), 3) := by decide +kernel
theorem dL_isRight_349 : decode cL_isRight 349 = .ok (.iload 12, 2) := by decide +kernel
theorem dL_isRight_351 : decode cL_isRight 351 = .ok (.ifCond .eq 24, 3) := by decide +kernel
theorem dL_isRight_354 : decode cL_isRight 354 = .ok (.iload 13, 2) := by decide +kernel
theorem dL_isRight_356 : decode cL_isRight 356 = .ok (.ifCond .eq 19, 3) := by decide +kernel
theorem dL_isRight_359 : decode cL_isRight 359 = .ok (.aload_n 0, 1) := by decide +kernel
theorem dL_isRight_360 : decode cL_isRight 360 = .ok (.bipush 15, 2) := by decide +kernel
theorem dL_isRight_362 : decode cL_isRight 362 = .ok (.iload 9, 2) := by decide +kernel
theorem dL_isRight_364 : decode cL_isRight 364 = .ok (.invokestatic 121, 3) := by decide +kernel
theorem dL_isRight_367 : decode cL_isRight 367 = .ok (.iconst 1, 1) := by decide +kernel
theorem dL_isRight_368 : decode cL_isRight 368 = .ok (.if_icmp .ne 7, 3) := by decide +kernel
theorem dL_isRight_371 : decode cL_isRight 371 = .ok (.iconst 1, 1) := by decide +kernel
theorem dL_isRight_372 : decode cL_isRight 372 = .ok (.goto 4, 3) := by decide +kernel
theorem dL_isRight_375 : decode cL_isRight 375 = .ok (.iconst 0, 1) := by decide +kernel
theorem dL_isRight_376 : decode cL_isRight 376 = .ok (.istore 12, 2) := by decide +kernel
theorem dL_isRight_378 : decode cL_isRight 378 = .ok (.iload 12, 2) := by decide +kernel
theorem dL_isRight_380 : decode cL_isRight 380 = .ok (.ifCond .ne 5, 3) := by decide +kernel
theorem dL_isRight_383 : decode cL_isRight 383 = .ok (.iconst 0, 1) := by decide +kernel
theorem dL_isRight_384 : decode cL_isRight 384 = .ok (.ireturn, 1) := by decide +kernel
theorem dL_isRight_385 : decode cL_isRight 385 = .ok (.iinc 8 1, 3) := by decide +kernel
theorem dL_isRight_388 : decode cL_isRight 388 = .ok (.goto (-377), 3) := by decide +kernel
theorem dL_isRight_391 : decode cL_isRight 391 = .ok (.lload 5, 2) := by decide +kernel
theorem dL_isRight_393 : decode cL_isRight 393 = .ok (.aload_n 0, 1) := by decide +kernel
theorem dL_isRight_394 : decode cL_isRight 394 = .ok (.invokevirtual 146, 3) := by decide +kernel
theorem dL_isRight_397 : decode cL_isRight 397 = .ok (.lcmp, 1) := by decide +kernel
theorem dL_isRight_398 : decode cL_isRight 398 = .ok (.ifCond .ne 52, 3) := by decide +kernel
theorem dL_isRight_401 : decode cL_isRight 401 = .ok (.lload_n 3, 1) := by decide +kernel
theorem dL_isRight_402 : decode cL_isRight 402 = .ok (.aload_n 0, 1) := by decide +kernel
theorem dL_isRight_403 : decode cL_isRight 403 = .ok (.invokevirtual 150, 3) := by decide +kernel
theorem dL_isRight_406 : decode cL_isRight 406 = .ok (.lcmp, 1) := by decide +kernel
theorem dL_isRight_407 : decode cL_isRight 407 = .ok (.ifCond .ne 43, 3) := by decide +kernel
theorem dL_isRight_410 : decode cL_isRight 410 = .ok (.aload_n 0, 1) := by decide +kernel
theorem dL_isRight_411 : decode cL_isRight 411 = .ok (.invokevirtual 153, 3) := by decide +kernel
theorem dL_isRight_414 : decode cL_isRight 414 = .ok (.lload 5, 2) := by decide +kernel
theorem dL_isRight_416 : decode cL_isRight 416 = .ok (.l2d, 1) := by decide +kernel
theorem dL_isRight_417 : decode cL_isRight 417 = .ok (.ldc2_w 157, 3) := by decide +kernel
theorem dL_isRight_420 : decode cL_isRight 420 = .ok (.ddiv, 1) := by decide +kernel
theorem dL_isRight_421 : decode cL_isRight 421 = .ok (.dcmp .l, 1) := by decide +kernel
theorem dL_isRight_422 : decode cL_isRight 422 = .ok (.ifCond .ne 28, 3) := by decide +kernel
theorem dL_isRight_425 : decode cL_isRight 425 = .ok (.aload_n 0, 1) := by decide +kernel
theorem dL_isRight_426 : decode cL_isRight 426 = .ok (.invokevirtual 159, 3) := by decide +kernel
theorem dL_isRight_429 : decode cL_isRight 429 = .ok (.iload 7, 2) := by decide +kernel
theorem dL_isRight_431 : decode cL_isRight 431 = .ok (.i2f, 1) := by decide +kernel
theorem dL_isRight_432 : decode cL_isRight 432 = .ok (.ldc 163, 2) := by decide +kernel
theorem dL_isRight_434 : decode cL_isRight 434 = .ok (.fdiv, 1) := by decide +kernel
theorem dL_isRight_435 : decode cL_isRight 435 = .ok (.fcmp .l, 1) := by decide +kernel
theorem dL_isRight_436 : decode cL_isRight 436 = .ok (.ifCond .ne 14, 3) := by decide +kernel
theorem dL_isRight_439 : decode cL_isRight 439 = .ok (.aload_n 0, 1) := by decide +kernel
theorem dL_isRight_440 : decode cL_isRight 440 = .ok (.invokevirtual 164, 3) := by decide +kernel
theorem dL_isRight_443 : decode cL_isRight 443 = .ok (.ifCond .eq 7, 3) := by decide +kernel
theorem dL_isRight_446 : decode cL_isRight 446 = .ok (.iconst 1, 1) := by decide +kernel
theorem dL_isRight_447 : decode cL_isRight 447 = .ok (.goto 4, 3) := by decide +kernel
theorem dL_isRight_450 : decode cL_isRight 450 = .ok (.iconst 0, 1) := by decide +kernel
theorem dL_isRight_451 : decode cL_isRight 451 = .ok (.ireturn, 1) := by decide +kernel
theorem dL_areReadersRight_0 : decode cL_areReadersRight 0 = .ok (.iconst 1, 1) := by decide +kernel
theorem dL_areReadersRight_1 : decode cL_areReadersRight 1 = .ok (.istore_n 2, 1) := by decide +kernel
theorem dL_areReadersRight_2 : decode cL_areReadersRight 2 = .ok (.iconst 0, 1) := by decide +kernel
theorem dL_areReadersRight_3 : decode cL_areReadersRight 3 = .ok (.istore_n 3, 1) := by decide +kernel
theorem dL_areReadersRight_4 : decode cL_areReadersRight 4 = .ok (.iload_n 3, 1) := by decide +kernel
theorem dL_areReadersRight_5 : decode cL_areReadersRight 5 = .ok (.iload_n 1, 1) := by decide +kernel
theorem dL_areReadersRight_6 : decode cL_areReadersRight 6 = .ok (.if_icmp .ge 115, 3) := by decide +kernel
theorem dL_areReadersRight_9 : decode cL_areReadersRight 9 = .ok (.iload_n 2, 1) := by decide +kernel
theorem dL_areReadersRight_10 : decode cL_areReadersRight 10 = .ok (.ifCond .eq 111, 3) := by decide +kernel
theorem dL_areReadersRight_13 : decode cL_areReadersRight 13 = .ok (.iconst 0, 1) := by decide +kernel
theorem dL_areReadersRight_14 : decode cL_areReadersRight 14 = .ok (.istore 4, 2) := by decide +kernel
theorem dL_areReadersRight_16 : decode cL_areReadersRight 16 = .ok (.iconst 0, 1) := by decide +kernel
theorem dL_areReadersRight_17 : decode cL_areReadersRight 17 = .ok (.istore 5, 2) := by decide +kernel
theorem dL_areReadersRight_19 : decode cL_areReadersRight 19 = .ok (.iconst 0, 1) := by decide +kernel
theorem dL_areReadersRight_20 : decode cL_areReadersRight 20 = .ok (.istore 6, 2) := by decide +kernel
theorem dL_areReadersRight_22 : decode cL_areReadersRight 22 = .ok (.iload 6, 2) := by decide +kernel
theorem dL_areReadersRight_24 : decode cL_areReadersRight 24 = .ok (.iconst 4, 1) := by decide +kernel
theorem dL_areReadersRight_25 : decode cL_areReadersRight 25 = .ok (.if_icmp .ge 25, 3) := by decide +kernel
theorem dL_areReadersRight_28 : decode cL_areReadersRight 28 = .ok (.iload 4, 2) := by decide +kernel
theorem dL_areReadersRight_30 : decode cL_areReadersRight 30 = .ok (.aload_n 0, 1) := by decide +kernel
theorem dL_areReadersRight_31 : decode cL_areReadersRight 31 = .ok (.bipush 17, 2) := by decide +kernel
theorem dL_areReadersRight_33 : decode cL_areReadersRight 33 = .ok (.iload_n 3, 1) := by decide +kernel
theorem dL_areReadersRight_34 : decode cL_areReadersRight 34 = .ok (.iload 6, 2) := by decide +kernel
theorem dL_areReadersRight_36 : decode cL_areReadersRight 36 = .ok (.iconst 0, 1) := by decide +kernel
theorem dL_areReadersRight_37 : decode cL_areReadersRight 37 = .ok (.iconst 0, 1) := by decide +kernel
theorem dL_areReadersRight_38 : decode cL_areReadersRight 38 = .ok (.invokestatic 112, 3) := by decide +kernel
theorem dL_areReadersRight_41 : decode cL_areReadersRight 41 = .ok (.iadd, 1) := by decide +kernel
theorem dL_areReadersRight_42 : decode cL_areReadersRight 42 = .ok (.istore 4, 2) := by decide +kernel
theorem dL_areReadersRight_44 : decode cL_areReadersRight 44 = .ok (.iinc 6 1, 3) := by decide +kernel
theorem dL_areReadersRight_47 : decode cL_areReadersRight 47 = .ok (.goto (-25), 3) := by decide +kernel
theorem dL_areReadersRight_50 : decode cL_areReadersRight 50 = .ok (.iconst 0, 1) := by decide +kernel
theorem dL_areReadersRight_51 : decode cL_areReadersRight 51 = .ok (.istore 6, 2) := by decide +kernel
theorem dL_areReadersRight_53 : decode cL_areReadersRight 53 = .ok (.iload 6, 2) := by decide +kernel
theorem dL_areReadersRight_55 : decode cL_areReadersRight 55 = .ok (.aload_n 0, 1) := by decide +kernel
theorem dL_areReadersRight_56 : decode cL_areReadersRight 56 = .ok (.invokevirtual 168, 3) := by decide +kernel
theorem dL_areReadersRight_59 : decode cL_areReadersRight 59 = .ok (.if_icmp .gt 25, 3) := by decide +kernel
theorem dL_areReadersRight_62 : decode cL_areReadersRight 62 = .ok (.iload 5, 2) := by decide +kernel
theorem dL_areReadersRight_64 : decode cL_areReadersRight 64 = .ok (.aload_n 0, 1) := by decide +kernel
theorem dL_areReadersRight_65 : decode cL_areReadersRight 65 = .ok (.bipush 18, 2) := by decide +kernel
theorem dL_areReadersRight_67 : decode cL_areReadersRight 67 = .ok (.iload_n 3, 1) := by decide +kernel
theorem dL_areReadersRight_68 : decode cL_areReadersRight 68 = .ok (.iload 6, 2) := by decide +kernel
theorem dL_areReadersRight_70 : decode cL_areReadersRight 70 = .ok (.iconst 0, 1) := by decide +kernel
theorem dL_areReadersRight_71 : decode cL_areReadersRight 71 = .ok (.iconst 0, 1) := by decide +kernel
theorem dL_areReadersRight_72 : decode cL_areReadersRight 72 = .ok (.invokestatic 112, 3) := by decide +kernel
theorem dL_areReadersRight_75 : decode cL_areReadersRight 75 = .ok (.iadd, 1) := by decide +kernel
theorem dL_areReadersRight_76 : decode cL_areReadersRight 76 = .ok (.istore 5, 2) := by decide +kernel
theorem dL_areReadersRight_78 : decode cL_areReadersRight 78 = .ok (.iinc 6 1, 3) := by decide +kernel
theorem dL_areReadersRight_81 : decode cL_areReadersRight 81 = .ok (.goto (-28), 3) := by decide +kernel
theorem dL_areReadersRight_84 : decode cL_areReadersRight 84 = .ok (.iload 4, 2) := by decide +kernel
theorem dL_areReadersRight_86 : decode cL_areReadersRight 86 = .ok (.iload 5, 2) := by decide +kernel
theorem dL_areReadersRight_88 : decode cL_areReadersRight 88 = .ok (.if_icmp .ne 25, 3) := by decide +kernel
theorem dL_areReadersRight_91 : decode cL_areReadersRight 91 = .ok (.aload_n 0, 1) := by decide +kernel
theorem dL_areReadersRight_92 : decode cL_areReadersRight 92 = .ok (.bipush 18, 2) := by decide +kernel
theorem dL_areReadersRight_94 : decode cL_areReadersRight 94 = .ok (.iload_n 3, 1) := by decide +kernel
theorem dL_areReadersRight_95 : decode cL_areReadersRight 95 = .ok (.aload_n 0, 1) := by decide +kernel
theorem dL_areReadersRight_96 : decode cL_areReadersRight 96 = .ok (.invokevirtual 168, 3) := by decide +kernel
theorem dL_areReadersRight_99 : decode cL_areReadersRight 99 = .ok (.iconst 1, 1) := by decide +kernel
theorem dL_areReadersRight_100 : decode cL_areReadersRight 100 = .ok (.iadd, 1) := by decide +kernel
theorem dL_areReadersRight_101 : decode cL_areReadersRight 101 = .ok (.iconst 0, 1) := by decide +kernel
theorem dL_areReadersRight_102 : decode cL_areReadersRight 102 = .ok (.iconst 0, 1) := by decide +kernel
theorem dL_areReadersRight_103 : decode cL_areReadersRight 103 = .ok (.invokestatic 112, 3) := by decide +kernel
theorem dL_areReadersRight_106 : decode cL_areReadersRight 106 = .ok (.ifCond .ne 7, 3) := by decide +kernel
theorem dL_areReadersRight_109 : decode cL_areReadersRight 109 = .ok (.iconst 1, 1) := by decide +kernel
theorem dL_areReadersRight_110 : decode cL_areReadersRight 110 = .ok (.goto 4, 3) := by decide +kernel
theorem dL_areReadersRight_113 : decode cL_areReadersRight 113 = .ok (.iconst 0, 1) := by decide +kernel
theorem dL_areReadersRight_114 : decode cL_areReadersRight 114 = .ok (.istore_n 2, 1) := by decide +kernel
theorem dL_areReadersRight_115 : decode cL_areReadersRight 115 = .ok (.iinc 3 1, 3) := by decide +kernel
theorem dL_areReadersRight_118 : decode cL_areReadersRight 118 = .ok (.goto (-114), 3) := by decide +kernel
theorem dL_areReadersRight_121 : decode cL_areReadersRight 121 = .ok (.iload_n 2, 1) := by decide +kernel
theorem dL_areReadersRight_122 : decode cL_areReadersRight 122 = .ok (.ireturn, 1) := by decide +kernel
theorem dL_areSuspects_0 : decode cL_areSuspects 0 = .ok (.aload_n 1, 1) := by decide +kernel
theorem dL_areSuspects_1 : decode cL_areSuspects 1 = .ok (.iload_n 2, 1) := by decide +kernel
theorem dL_areSuspects_2 : decode cL_areSuspects 2 = .ok (.invokestatic 172, 3) := by decide +kernel
theorem dL_areSuspects_5 : decode cL_areSuspects 5 = .ok (.istore 4, 2) := by decide +kernel
theorem dL_areSuspects_7 : decode cL_areSuspects 7 = .ok (.aload_n 1, 1) := by decide +kernel
theorem dL_areSuspects_8 : decode cL_areSuspects 8 = .ok (.iload_n 2, 1) := by decide +kernel
theorem dL_areSuspects_9 : decode cL_areSuspects 9 = .ok (.iconst 4, 1) := by decide +kernel
theorem dL_areSuspects_10 : decode cL_areSuspects 10 = .ok (.iadd, 1) := by decide +kernel
theorem dL_areSuspects_11 : decode cL_areSuspects 11 = .ok (.iconst 4, 1) := by decide +kernel
theorem dL_areSuspects_12 : decode cL_areSuspects 12 = .ok (.invokestatic 117, 3) := by decide +kernel
theorem dL_areSuspects_15 : decode cL_areSuspects 15 = .ok (.istore 5, 2) := by decide +kernel
theorem dL_areSuspects_17 : decode cL_areSuspects 17 = .ok (.iconst 0, 1) := by decide +kernel
theorem dL_areSuspects_18 : decode cL_areSuspects 18 = .ok (.istore 6, 2) := by decide +kernel
theorem dL_areSuspects_20 : decode cL_areSuspects 20 = .ok (.ldc 175, 2) := by decide +kernel
theorem dL_areSuspects_22 : decode cL_areSuspects 22 = .ok (.istore 7, 2) := by decide +kernel
theorem dL_areSuspects_24 : decode cL_areSuspects 24 = .ok (.iconst 0, 1) := by decide +kernel
theorem dL_areSuspects_25 : decode cL_areSuspects 25 = .ok (.istore 8, 2) := by decide +kernel
theorem dL_areSuspects_27 : decode cL_areSuspects 27 = .ok (.iload 8, 2) := by decide +kernel
theorem dL_areSuspects_29 : decode cL_areSuspects 29 = .ok (.aload_n 0, 1) := by decide +kernel
theorem dL_areSuspects_30 : decode cL_areSuspects 30 = .ok (.invokevirtual 176, 3) := by decide +kernel
theorem dL_areSuspects_33 : decode cL_areSuspects 33 = .ok (.if_icmp .ge 90, 3) := by decide +kernel
theorem dL_areSuspects_36 : decode cL_areSuspects 36 = .ok (.iconst 0, 1) := by decide +kernel
theorem dL_areSuspects_37 : decode cL_areSuspects 37 = .ok (.istore 9, 2) := by decide +kernel
theorem dL_areSuspects_39 : decode cL_areSuspects 39 = .ok (.iconst 0, 1) := by decide +kernel
theorem dL_areSuspects_40 : decode cL_areSuspects 40 = .ok (.istore 10, 2) := by decide +kernel
theorem dL_areSuspects_42 : decode cL_areSuspects 42 = .ok (.iload 10, 2) := by decide +kernel
theorem dL_areSuspects_44 : decode cL_areSuspects 44 = .ok (.bipush 8, 2) := by decide +kernel
theorem dL_areSuspects_46 : decode cL_areSuspects 46 = .ok (.if_icmp .ge 38, 3) := by decide +kernel
theorem dL_areSuspects_49 : decode cL_areSuspects 49 = .ok (.iload 9, 2) := by decide +kernel
theorem dL_areSuspects_51 : decode cL_areSuspects 51 = .ok (.ifCond .ne 20, 3) := by decide +kernel
theorem dL_areSuspects_54 : decode cL_areSuspects 54 = .ok (.aload_n 3, 1) := by decide +kernel
theorem dL_areSuspects_55 : decode cL_areSuspects 55 = .ok (.iload 8, 2) := by decide +kernel
theorem dL_areSuspects_57 : decode cL_areSuspects 57 = .ok (.iaload, 1) := by decide +kernel
theorem dL_areSuspects_58 : decode cL_areSuspects 58 = .ok (.iload 10, 2) := by decide +kernel
theorem dL_areSuspects_60 : decode cL_areSuspects 60 = .ok (.invokestatic 129, 3) := by decide +kernel
theorem dL_areSuspects_63 : decode cL_areSuspects 63 = .ok (.iload 4, 2) := by decide +kernel
theorem dL_areSuspects_65 : decode cL_areSuspects 65 = .ok (.iand, 1) := by decide +kernel
theorem dL_areSuspects_66 : decode cL_areSuspects 66 = .ok (.iload 4, 2) := by decide +kernel
theorem dL_areSuspects_68 : decode cL_areSuspects 68 = .ok (.if_icmp .ne 7, 3) := by decide +kernel
theorem dL_areSuspects_71 : decode cL_areSuspects 71 = .ok (.iconst 1, 1) := by decide +kernel
theorem dL_areSuspects_72 : decode cL_areSuspects 72 = .ok (.goto 4, 3) := by decide +kernel
theorem dL_areSuspects_75 : decode cL_areSuspects 75 = .ok (.iconst 0, 1) := by decide +kernel
theorem dL_areSuspects_76 : decode cL_areSuspects 76 = .ok (.istore 9, 2) := by decide +kernel
theorem dL_areSuspects_78 : decode cL_areSuspects 78 = .ok (.iinc 10 1, 3) := by decide +kernel
theorem dL_areSuspects_81 : decode cL_areSuspects 81 = .ok (.goto (-39), 3) := by decide +kernel
theorem dL_areSuspects_84 : decode cL_areSuspects 84 = .ok (.iload 6, 2) := by decide +kernel
theorem dL_areSuspects_86 : decode cL_areSuspects 86 = .ok (.iload 9, 2) := by decide +kernel
theorem dL_areSuspects_88 : decode cL_areSuspects 88 = .ok (.ifCond .eq 22, 3) := by decide +kernel
theorem dL_areSuspects_91 : decode cL_areSuspects 91 = .ok (.aload_n 0, 1) := by decide +kernel
theorem dL_areSuspects_92 : decode cL_areSuspects 92 = .ok (.bipush 17, 2) := by decide +kernel
theorem dL_areSuspects_94 : decode cL_areSuspects 94 = .ok (.iload 8, 2) := by decide +kernel
theorem dL_areSuspects_96 : decode cL_areSuspects 96 = .ok (.iload 5, 2) := by decide +kernel
theorem dL_areSuspects_98 : decode cL_areSuspects 98 = .ok (.iconst 0, 1) := by decide +kernel
theorem dL_areSuspects_99 : decode cL_areSuspects 99 = .ok (.iconst 0, 1) := by decide +kernel
theorem dL_areSuspects_100 : decode cL_areSuspects 100 = .ok (.invokestatic 112, 3) := by decide +kernel
theorem dL_areSuspects_103 : decode cL_areSuspects 103 = .ok (.ifCond .le 7, 3) := by decide +kernel
theorem dL_areSuspects_106 : decode cL_areSuspects 106 = .ok (.iconst 1, 1) := by decide +kernel
theorem dL_areSuspects_107 : decode cL_areSuspects 107 = .ok (.goto 4, 3) := by decide +kernel
theorem dL_areSuspects_110 : decode cL_areSuspects 110 = .ok (.iconst 0, 1) := by decide +kernel
theorem dL_areSuspects_111 : decode cL_areSuspects 111 = .ok (.invokestatic 44, 3) := by decide +kernel
theorem dL_areSuspects_114 : decode cL_areSuspects 114 = .ok (.iadd, 1) := by decide +kernel
theorem dL_areSuspects_115 : decode cL_areSuspects 115 = .ok (.istore 6, 2) := by decide +kernel
theorem dL_areSuspects_117 : decode cL_areSuspects 117 = .ok (.iinc 8 1, 3) := by decide +kernel
theorem dL_areSuspects_120 : decode cL_areSuspects 120 = .ok (.goto (-93), 3) := by decide +kernel
theorem dL_areSuspects_123 : decode cL_areSuspects 123 = .ok (.aload_n 0, 1) := by decide +kernel
theorem dL_areSuspects_124 : decode cL_areSuspects 124 = .ok (.bipush 19, 2) := by decide +kernel
theorem dL_areSuspects_126 : decode cL_areSuspects 126 = .ok (.iload 4, 2) := by decide +kernel
theorem dL_areSuspects_128 : decode cL_areSuspects 128 = .ok (.iload 5, 2) := by decide +kernel
theorem dL_areSuspects_130 : decode cL_areSuspects 130 = .ok (.invokestatic 179, 3) := by decide +kernel
theorem dL_areSuspects_133 : decode cL_areSuspects 133 = .ok (.iload 6, 2) := by decide +kernel
theorem dL_areSuspects_135 : decode cL_areSuspects 135 = .ok (.if_icmp .ne 26, 3) := by decide +kernel
theorem dL_areSuspects_138 : decode cL_areSuspects 138 = .ok (.aload_n 0, 1) := by decide +kernel
theorem dL_areSuspects_139 : decode cL_areSuspects 139 = .ok (.bipush 20, 2) := by decide +kernel
theorem dL_areSuspects_141 : decode cL_areSuspects 141 = .ok (.iload 4, 2) := by decide +kernel
theorem dL_areSuspects_143 : decode cL_areSuspects 143 = .ok (.iload 5, 2) := by decide +kernel
theorem dL_areSuspects_145 : decode cL_areSuspects 145 = .ok (.iload 6, 2) := by decide +kernel
theorem dL_areSuspects_147 : decode cL_areSuspects 147 = .ok (.iconst 0, 1) := by decide +kernel
theorem dL_areSuspects_148 : decode cL_areSuspects 148 = .ok (.invokestatic 112, 3) := by decide +kernel
theorem dL_areSuspects_151 : decode cL_areSuspects 151 = .ok (.sipush (-2001), 3) := by decide +kernel
theorem dL_areSuspects_154 : decode cL_areSuspects 154 = .ok (.if_icmp .ne 7, 3) := by decide +kernel
theorem dL_areSuspects_157 : decode cL_areSuspects 157 = .ok (.iconst 1, 1) := by decide +kernel
theorem dL_areSuspects_158 : decode cL_areSuspects 158 = .ok (.goto 4, 3) := by decide +kernel
theorem dL_areSuspects_161 : decode cL_areSuspects 161 = .ok (.iconst 0, 1) := by decide +kernel
theorem dL_areSuspects_162 : decode cL_areSuspects 162 = .ok (.istore 8, 2) := by decide +kernel
theorem dL_areSuspects_164 : decode cL_areSuspects 164 = .ok (.iconst 0, 1) := by decide +kernel
theorem dL_areSuspects_165 : decode cL_areSuspects 165 = .ok (.istore 9, 2) := by decide +kernel
theorem dL_areSuspects_167 : decode cL_areSuspects 167 = .ok (.iload 9, 2) := by decide +kernel
theorem dL_areSuspects_169 : decode cL_areSuspects 169 = .ok (.iload 6, 2) := by decide +kernel
theorem dL_areSuspects_171 : decode cL_areSuspects 171 = .ok (.if_icmp .ge 57, 3) := by decide +kernel
theorem dL_areSuspects_174 : decode cL_areSuspects 174 = .ok (.aload_n 0, 1) := by decide +kernel
theorem dL_areSuspects_175 : decode cL_areSuspects 175 = .ok (.bipush 17, 2) := by decide +kernel
theorem dL_areSuspects_177 : decode cL_areSuspects 177 = .ok (.aload_n 0, 1) := by decide +kernel
theorem dL_areSuspects_178 : decode cL_areSuspects 178 = .ok (.bipush 20, 2) := by decide +kernel
theorem dL_areSuspects_180 : decode cL_areSuspects 180 = .ok (.iload 4, 2) := by decide +kernel
theorem dL_areSuspects_182 : decode cL_areSuspects 182 = .ok (.iload 5, 2) := by decide +kernel
theorem dL_areSuspects_184 : decode cL_areSuspects 184 = .ok (.iload 9, 2) := by decide +kernel
theorem dL_areSuspects_186 : decode cL_areSuspects 186 = .ok (.iconst 0, 1) := by decide +kernel
theorem dL_areSuspects_187 : decode cL_areSuspects 187 = .ok (.invokestatic 112, 3) := by decide +kernel
theorem dL_areSuspects_190 : decode cL_areSuspects 190 = .ok (.iload 5, 2) := by decide +kernel
theorem dL_areSuspects_192 : decode cL_areSuspects 192 = .ok (.iconst 0, 1) := by decide +kernel
theorem dL_areSuspects_193 : decode cL_areSuspects 193 = .ok (.iconst 0, 1) := by decide +kernel
theorem dL_areSuspects_194 : decode cL_areSuspects 194 = .ok (.invokestatic 112, 3) := by decide +kernel
theorem dL_areSuspects_197 : decode cL_areSuspects 197 = .ok (.istore 10, 2) := by decide +kernel
theorem dL_areSuspects_199 : decode cL_areSuspects 199 = .ok (.iload 8, 2) := by decide +kernel
theorem dL_areSuspects_201 : decode cL_areSuspects 201 = .ok (.ifCond .eq 14, 3) := by decide +kernel
theorem dL_areSuspects_204 : decode cL_areSuspects 204 = .ok (.iload 10, 2) := by decide +kernel
theorem dL_areSuspects_206 : decode cL_areSuspects 206 = .ok (.iload 7, 2) := by decide +kernel
theorem dL_areSuspects_208 : decode cL_areSuspects 208 = .ok (.if_icmp .gt 7, 3) := by decide +kernel
theorem dL_areSuspects_211 : decode cL_areSuspects 211 = .ok (.iconst 1, 1) := by decide +kernel
theorem dL_areSuspects_212 : decode cL_areSuspects 212 = .ok (.goto 4, 3) := by decide +kernel
theorem dL_areSuspects_215 : decode cL_areSuspects 215 = .ok (.iconst 0, 1) := by decide +kernel
theorem dL_areSuspects_216 : decode cL_areSuspects 216 = .ok (.istore 8, 2) := by decide +kernel
theorem dL_areSuspects_218 : decode cL_areSuspects 218 = .ok (.iload 10, 2) := by decide +kernel
theorem dL_areSuspects_220 : decode cL_areSuspects 220 = .ok (.istore 7, 2) := by decide +kernel
theorem dL_areSuspects_222 : decode cL_areSuspects 222 = .ok (.iinc 9 1, 3) := by decide +kernel
theorem dL_areSuspects_225 : decode cL_areSuspects 225 = .ok (.goto (-58), 3) := by decide +kernel
theorem dL_areSuspects_228 : decode cL_areSuspects 228 = .ok (.iload 8, 2) := by decide +kernel
theorem dL_areSuspects_230 : decode cL_areSuspects 230 = .ok (.ireturn, 1) := by decide +kernel
theorem dL_ask2_0 : decode cL_ask2 0 = .ok (.aload_n 0, 1) := by decide +kernel
theorem dL_ask2_1 : decode cL_ask2 1 = .ok (.iload_n 1, 1) := by decide +kernel
theorem dL_ask2_2 : decode cL_ask2 2 = .ok (.iload_n 2, 1) := by decide +kernel
theorem dL_ask2_3 : decode cL_ask2 3 = .ok (.iload_n 3, 1) := by decide +kernel
theorem dL_ask2_4 : decode cL_ask2 4 = .ok (.iconst 0, 1) := by decide +kernel
theorem dL_ask2_5 : decode cL_ask2 5 = .ok (.iconst 0, 1) := by decide +kernel
theorem dL_ask2_6 : decode cL_ask2 6 = .ok (.invokestatic 112, 3) := by decide +kernel
theorem dL_ask2_9 : decode cL_ask2 9 = .ok (.ireturn, 1) := by decide +kernel
abbrev vwCl : List vw_C := [(RJ0, TJ0, 2), (RJx00060, TJx00060, 6), (RX0, TX0, 12), (RX1, TX1, 9), (RX2, TX2, 4), (RX3, TX3, 8)]

