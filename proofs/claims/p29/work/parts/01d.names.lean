theorem wsL_law_x0 : ∀ w ∈ (vx_atM "java/lang/ArrayIndexOutOfBoundsException" ["java/lang/IndexOutOfBoundsException", "java/lang/RuntimeException", "java/lang/Exception"]).filter goodWord, w ∈ lw_tbl := by decide +kernel
theorem wsL_law_x1 : ∀ w ∈ (vx_atS RX3 55 "java/lang/IllegalArgumentException" ["java/lang/RuntimeException", "java/lang/Exception"]).filter goodWord, w ∈ lw_tbl := by decide +kernel
theorem wsL_law_x2 : ∀ w ∈ (vx_atS RX3 62 "java/lang/IllegalStateException" ["java/lang/RuntimeException", "java/lang/Exception"]).filter goodWord, w ∈ lw_tbl := by decide +kernel
theorem wsL_law_x3 : ∀ w ∈ (vx_atS RX3 184 "java/lang/IndexOutOfBoundsException" ["java/lang/RuntimeException", "java/lang/Exception"]).filter goodWord, w ∈ lw_tbl := by decide +kernel
theorem wsL_law_x4 : ∀ w ∈ (vx_atS RX3 128 "java/lang/UnsupportedOperationException" ["java/lang/RuntimeException", "java/lang/Exception"]).filter goodWord, w ∈ lw_tbl := by decide +kernel
theorem wsL_law_x5 : ∀ w ∈ (vx_atS RX3 242 "java/lang/ArithmeticException" ["java/lang/RuntimeException", "java/lang/Exception"]).filter goodWord, w ∈ lw_tbl := by decide +kernel
theorem wsL_law_in : ∀ w ∈ wsL_law, w ∈ lw_tbl := fun w h => (fun h => (List.mem_append.mp h).elim (wsL_law0_r1_in w) (fun h => (List.mem_append.mp h).elim (wsL_law0_r2_in w) (fun h => (List.mem_append.mp h).elim (wsL_law0_r3_in w) (fun h => (List.mem_append.mp h).elim (wsL_law0_r4_in w) (fun h => (List.mem_append.mp h).elim (wsL_law0_r5_in w) (fun h => (List.mem_append.mp h).elim (wsL_law0_r6_in w) (fun h => (List.mem_append.mp h).elim (wsL_law0_r7_in w) (fun h => (List.mem_append.mp h).elim (wsL_law0_r8_in w) (fun h => (List.mem_append.mp h).elim (wsL_law0_r9_in w) (fun h => (List.mem_append.mp h).elim (wsL_law0_r10_in w) (fun h => (List.mem_append.mp h).elim (wsL_law0_r11_in w) (fun h => (List.mem_append.mp h).elim (wsL_law0_r12_in w) (fun h => (List.mem_append.mp h).elim (wsL_law0_r13_in w) (fun h => (List.mem_append.mp h).elim (wsL_law0_r14_in w) (fun h => (List.mem_append.mp h).elim (wsL_law0_r15_in w) (fun h => (List.mem_append.mp h).elim (wsL_law0_r16_in w) (fun h => (List.mem_append.mp h).elim (wsL_law0_r17_in w) (fun h => (List.mem_append.mp h).elim (wsL_law0_r18_in w) (fun h => (List.mem_append.mp h).elim (wsL_law0_r19_in w) (fun h => (List.mem_append.mp h).elim (wsL_law0_r20_in w) (fun h => (List.mem_append.mp h).elim (wsL_law0_r21_in w) (fun h => (List.mem_append.mp h).elim (wsL_law0_r22_in w) (fun h => (List.mem_append.mp h).elim (wsL_law0_r23_in w) (fun h => (List.mem_append.mp h).elim (wsL_law0_r24_in w) (fun h => (List.mem_append.mp h).elim (wsL_law0_r25_in w) (fun h => (List.mem_append.mp h).elim (wsL_law0_r26_in w) (fun h => (List.mem_append.mp h).elim (wsL_law0_r27_in w) (fun h => (List.mem_append.mp h).elim (wsL_law0_r28_in w) (fun h => (List.mem_append.mp h).elim (wsL_law0_r29_in w) (fun h => (List.mem_append.mp h).elim (wsL_law0_r30_in w) (fun h => (List.mem_append.mp h).elim (wsX30_inT w) (fun h => (List.mem_append.mp h).elim (wsX40_inT w) (fun h => (List.mem_append.mp h).elim (wsX20_inT w) (fun h => (List.mem_append.mp h).elim (wsX00_inT w) (fun h => (List.mem_append.mp h).elim (wsX10_inT w) (fun h => (List.mem_append.mp h).elim (wsL_law_x0 w) (fun h => (List.mem_append.mp h).elim (wsL_law_x1 w) (fun h => (List.mem_append.mp h).elim (wsL_law_x2 w) (fun h => (List.mem_append.mp h).elim (wsL_law_x3 w) (fun h => (List.mem_append.mp h).elim (wsL_law_x4 w) (wsL_law_x5 w))))))))))))))))))))))))))))))))))))))))) h
theorem inlX0 : ∀ w ∈ wsX00, w ∈ wsL_law := fun _ h => (List.mem_append_right _ (List.mem_append_right _ (List.mem_append_right _ (List.mem_append_right _ (List.mem_append_right _ (List.mem_append_right _ (List.mem_append_right _ (List.mem_append_right _ (List.mem_append_right _ (List.mem_append_right _ (List.mem_append_right _ (List.mem_append_right _ (List.mem_append_right _ (List.mem_append_right _ (List.mem_append_right _ (List.mem_append_right _ (List.mem_append_right _ (List.mem_append_right _ (List.mem_append_right _ (List.mem_append_right _ (List.mem_append_right _ (List.mem_append_right _ (List.mem_append_right _ (List.mem_append_right _ (List.mem_append_right _ (List.mem_append_right _ (List.mem_append_right _ (List.mem_append_right _ (List.mem_append_right _ (List.mem_append_right _ (List.mem_append_right _ (List.mem_append_right _ (List.mem_append_right _ (List.mem_append_left _ h))))))))))))))))))))))))))))))))))
theorem inX0 : ∀ w ∈ wsX00, w ∈ lw_tbl := fun w h => wsL_law_in w (inlX0 w h)
theorem inlX1 : ∀ w ∈ wsX10, w ∈ wsL_law := fun _ h => (List.mem_append_right _ (List.mem_append_right _ (List.mem_append_right _ (List.mem_append_right _ (List.mem_append_right _ (List.mem_append_right _ (List.mem_append_right _ (List.mem_append_right _ (List.mem_append_right _ (List.mem_append_right _ (List.mem_append_right _ (List.mem_append_right _ (List.mem_append_right _ (List.mem_append_right _ (List.mem_append_right _ (List.mem_append_right _ (List.mem_append_right _ (List.mem_append_right _ (List.mem_append_right _ (List.mem_append_right _ (List.mem_append_right _ (List.mem_append_right _ (List.mem_append_right _ (List.mem_append_right _ (List.mem_append_right _ (List.mem_append_right _ (List.mem_append_right _ (List.mem_append_right _ (List.mem_append_right _ (List.mem_append_right _ (List.mem_append_right _ (List.mem_append_right _ (List.mem_append_right _ (List.mem_append_right _ (List.mem_append_left _ h)))))))))))))))))))))))))))))))))))
theorem inX1 : ∀ w ∈ wsX10, w ∈ lw_tbl := fun w h => wsL_law_in w (inlX1 w h)
theorem inlX2 : ∀ w ∈ wsX20, w ∈ wsL_law := fun _ h => (List.mem_append_right _ (List.mem_append_right _ (List.mem_append_right _ (List.mem_append_right _ (List.mem_append_right _ (List.mem_append_right _ (List.mem_append_right _ (List.mem_append_right _ (List.mem_append_right _ (List.mem_append_right _ (List.mem_append_right _ (List.mem_append_right _ (List.mem_append_right _ (List.mem_append_right _ (List.mem_append_right _ (List.mem_append_right _ (List.mem_append_right _ (List.mem_append_right _ (List.mem_append_right _ (List.mem_append_right _ (List.mem_append_right _ (List.mem_append_right _ (List.mem_append_right _ (List.mem_append_right _ (List.mem_append_right _ (List.mem_append_right _ (List.mem_append_right _ (List.mem_append_right _ (List.mem_append_right _ (List.mem_append_right _ (List.mem_append_right _ (List.mem_append_right _ (List.mem_append_left _ h)))))))))))))))))))))))))))))))))
theorem inX2 : ∀ w ∈ wsX20, w ∈ lw_tbl := fun w h => wsL_law_in w (inlX2 w h)
theorem inlX3 : ∀ w ∈ wsX30, w ∈ wsL_law := fun _ h => (List.mem_append_right _ (List.mem_append_right _ (List.mem_append_right _ (List.mem_append_right _ (List.mem_append_right _ (List.mem_append_right _ (List.mem_append_right _ (List.mem_append_right _ (List.mem_append_right _ (List.mem_append_right _ (List.mem_append_right _ (List.mem_append_right _ (List.mem_append_right _ (List.mem_append_right _ (List.mem_append_right _ (List.mem_append_right _ (List.mem_append_right _ (List.mem_append_right _ (List.mem_append_right _ (List.mem_append_right _ (List.mem_append_right _ (List.mem_append_right _ (List.mem_append_right _ (List.mem_append_right _ (List.mem_append_right _ (List.mem_append_right _ (List.mem_append_right _ (List.mem_append_right _ (List.mem_append_right _ (List.mem_append_right _ (List.mem_append_left _ h)))))))))))))))))))))))))))))))
theorem inX3 : ∀ w ∈ wsX30, w ∈ lw_tbl := fun w h => wsL_law_in w (inlX3 w h)
theorem inlX4 : ∀ w ∈ wsX40, w ∈ wsL_law := fun _ h => (List.mem_append_right _ (List.mem_append_right _ (List.mem_append_right _ (List.mem_append_right _ (List.mem_append_right _ (List.mem_append_right _ (List.mem_append_right _ (List.mem_append_right _ (List.mem_append_right _ (List.mem_append_right _ (List.mem_append_right _ (List.mem_append_right _ (List.mem_append_right _ (List.mem_append_right _ (List.mem_append_right _ (List.mem_append_right _ (List.mem_append_right _ (List.mem_append_right _ (List.mem_append_right _ (List.mem_append_right _ (List.mem_append_right _ (List.mem_append_right _ (List.mem_append_right _ (List.mem_append_right _ (List.mem_append_right _ (List.mem_append_right _ (List.mem_append_right _ (List.mem_append_right _ (List.mem_append_right _ (List.mem_append_right _ (List.mem_append_right _ (List.mem_append_left _ h))))))))))))))))))))))))))))))))
theorem inX4 : ∀ w ∈ wsX40, w ∈ lw_tbl := fun w h => wsL_law_in w (inlX4 w h)
theorem inJx00060 : ∀ w ∈ wsJx000600, w ∈ lw_tbl := by decide +kernel
theorem inJ6 : ∀ w ∈ wsJ60, w ∈ lw_tbl := by decide +kernel
theorem inJ9 : ∀ w ∈ wsJ90, w ∈ lw_tbl := by decide +kernel
theorem inJ0 : ∀ w ∈ wsJ00, w ∈ lw_tbl := by decide +kernel
theorem dX0_init_0 : decode cX0_init 0 = .ok (.aload_n 0, 1) := by decide +kernel
theorem dX0_init_1 : decode cX0_init 1 = .ok (.invokespecial 3, 3) := by decide +kernel
theorem dX0_init_4 : decode cX0_init 4 = .ok (.aload_n 0, 1) := by decide +kernel
theorem dX0_init_5 : decode cX0_init 5 = .ok (.iconst 0, 1) := by decide +kernel
theorem dX0_init_6 : decode cX0_init 6 = .ok (.putfield 9, 3) := by decide +kernel
theorem dX0_init_9 : decode cX0_init 9 = .ok (.aload_n 0, 1) := by decide +kernel
theorem dX0_init_10 : decode cX0_init 10 = .ok (.iconst 0, 1) := by decide +kernel
theorem dX0_init_11 : decode cX0_init 11 = .ok (.putfield 15, 3) := by decide +kernel
theorem dX0_init_14 : decode cX0_init 14 = .ok (.aload_n 0, 1) := by decide +kernel
theorem dX0_init_15 : decode cX0_init 15 = .ok (.aconst_null, 1) := by decide +kernel
theorem dX0_init_16 : decode cX0_init 16 = .ok (.putfield 18, 3) := by decide +kernel
theorem dX0_init_19 : decode cX0_init 19 = .ok (.aload_n 0, 1) := by decide +kernel
theorem dX0_init_20 : decode cX0_init 20 = .ok (.iconst 0, 1) := by decide +kernel
theorem dX0_init_21 : decode cX0_init 21 = .ok (.putfield 22, 3) := by decide +kernel
theorem dX0_init_24 : decode cX0_init 24 = .ok (.aload_n 0, 1) := by decide +kernel
theorem dX0_init_25 : decode cX0_init 25 = .ok (.iconst 0, 1) := by decide +kernel
theorem dX0_init_26 : decode cX0_init 26 = .ok (.putfield 25, 3) := by decide +kernel
theorem dX0_init_29 : decode cX0_init 29 = .ok (.aload_n 0, 1) := by decide +kernel
theorem dX0_init_30 : decode cX0_init 30 = .ok (.iconst 0, 1) := by decide +kernel
theorem dX0_init_31 : decode cX0_init 31 = .ok (.putfield 29, 3) := by decide +kernel
theorem dX0_init_34 : decode cX0_init 34 = .ok (.aload_n 0, 1) := by decide +kernel
theorem dX0_init_35 : decode cX0_init 35 = .ok (.bipush 32, 2) := by decide +kernel
theorem dX0_init_37 : decode cX0_init 37 = .ok (.newarray .int, 2) := by decide +kernel
theorem dX0_init_39 : decode cX0_init 39 = .ok (.putfield 32, 3) := by decide +kernel
theorem dX0_init_42 : decode cX0_init 42 = .ok (.aload_n 0, 1) := by decide +kernel
theorem dX0_init_43 : decode cX0_init 43 = .ok (.iconst 0, 1) := by decide +kernel
theorem dX0_init_44 : decode cX0_init 44 = .ok (.putfield 36, 3) := by decide +kernel
theorem dX0_init_47 : decode cX0_init 47 = .ok (.aload_n 0, 1) := by decide +kernel
theorem dX0_init_48 : decode cX0_init 48 = .ok (.iconst (-1), 1) := by decide +kernel
theorem dX0_init_49 : decode cX0_init 49 = .ok (.putfield 39, 3) := by decide +kernel
theorem dX0_init_52 : decode cX0_init 52 = .ok (.aload_n 0, 1) := by decide +kernel
theorem dX0_init_53 : decode cX0_init 53 = .ok (.iconst 0, 1) := by decide +kernel
theorem dX0_init_54 : decode cX0_init 54 = .ok (.putfield 42, 3) := by decide +kernel
theorem dX0_init_57 : decode cX0_init 57 = .ok (.aload_n 0, 1) := by decide +kernel
theorem dX0_init_58 : decode cX0_init 58 = .ok (.sipush 1920, 3) := by decide +kernel
theorem dX0_init_61 : decode cX0_init 61 = .ok (.newarray .int, 2) := by decide +kernel
theorem dX0_init_63 : decode cX0_init 63 = .ok (.putfield 45, 3) := by decide +kernel
theorem dX0_init_66 : decode cX0_init 66 = .ok (.aload_n 0, 1) := by decide +kernel
theorem dX0_init_67 : decode cX0_init 67 = .ok (.iconst 0, 1) := by decide +kernel
theorem dX0_init_68 : decode cX0_init 68 = .ok (.putfield 48, 3) := by decide +kernel
theorem dX0_init_71 : decode cX0_init 71 = .ok (.return_, 1) := by decide +kernel
theorem dX0_settle_0 : decode cX0_settle 0 = .ok (.aload_n 0, 1) := by decide +kernel
theorem dX0_settle_1 : decode cX0_settle 1 = .ok (.iload_n 1, 1) := by decide +kernel
theorem dX0_settle_2 : decode cX0_settle 2 = .ok (.putfield 9, 3) := by decide +kernel
theorem dX0_settle_5 : decode cX0_settle 5 = .ok (.aload_n 0, 1) := by decide +kernel
theorem dX0_settle_6 : decode cX0_settle 6 = .ok (.iload_n 2, 1) := by decide +kernel
theorem dX0_settle_7 : decode cX0_settle 7 = .ok (.putfield 15, 3) := by decide +kernel
theorem dX0_settle_10 : decode cX0_settle 10 = .ok (.return_, 1) := by decide +kernel
theorem dX0_chargeBy_0 : decode cX0_chargeBy 0 = .ok (.aload_n 0, 1) := by decide +kernel
theorem dX0_chargeBy_1 : decode cX0_chargeBy 1 = .ok (.aload_n 0, 1) := by decide +kernel
theorem dX0_chargeBy_2 : decode cX0_chargeBy 2 = .ok (.getfield 15, 3) := by decide +kernel
theorem dX0_chargeBy_5 : decode cX0_chargeBy 5 = .ok (.iload_n 1, 1) := by decide +kernel
theorem dX0_chargeBy_6 : decode cX0_chargeBy 6 = .ok (.iadd, 1) := by decide +kernel
theorem dX0_chargeBy_7 : decode cX0_chargeBy 7 = .ok (.sipush 200, 3) := by decide +kernel
theorem dX0_chargeBy_10 : decode cX0_chargeBy 10 = .ok (.invokestatic 51, 3) := by decide +kernel
theorem dX0_chargeBy_13 : decode cX0_chargeBy 13 = .ok (.putfield 15, 3) := by decide +kernel
theorem dX0_chargeBy_16 : decode cX0_chargeBy 16 = .ok (.return_, 1) := by decide +kernel
theorem dX0_wearOf_0 : decode cX0_wearOf 0 = .ok (.iload_n 1, 1) := by decide +kernel
theorem dX0_wearOf_1 : decode cX0_wearOf 1 = .ok (.ifCond .lt 9, 3) := by decide +kernel
theorem dX0_wearOf_4 : decode cX0_wearOf 4 = .ok (.iload_n 1, 1) := by decide +kernel
theorem dX0_wearOf_5 : decode cX0_wearOf 5 = .ok (.bipush 32, 2) := by decide +kernel
theorem dX0_wearOf_7 : decode cX0_wearOf 7 = .ok (.if_icmp .lt 7, 3) := by decide +kernel
theorem dX0_wearOf_10 : decode cX0_wearOf 10 = .ok (.iconst 0, 1) := by decide +kernel
theorem dX0_wearOf_11 : decode cX0_wearOf 11 = .ok (.goto 9, 3) := by decide +kernel
theorem dX0_wearOf_14 : decode cX0_wearOf 14 = .ok (.aload_n 0, 1) := by decide +kernel
theorem dX0_wearOf_15 : decode cX0_wearOf 15 = .ok (.getfield 32, 3) := by decide +kernel
theorem dX0_wearOf_18 : decode cX0_wearOf 18 = .ok (.iload_n 1, 1) := by decide +kernel
theorem dX0_wearOf_19 : decode cX0_wearOf 19 = .ok (.iaload, 1) := by decide +kernel
theorem dX0_wearOf_20 : decode cX0_wearOf 20 = .ok (.ireturn, 1) := by decide +kernel
theorem dX0_wearOfAll_0 : decode cX0_wearOfAll 0 = .ok (.iconst 0, 1) := by decide +kernel
theorem dX0_wearOfAll_1 : decode cX0_wearOfAll 1 = .ok (.istore_n 1, 1) := by decide +kernel
theorem dX0_wearOfAll_2 : decode cX0_wearOfAll 2 = .ok (.iconst 0, 1) := by decide +kernel
theorem dX0_wearOfAll_3 : decode cX0_wearOfAll 3 = .ok (.istore_n 2, 1) := by decide +kernel
theorem dX0_wearOfAll_4 : decode cX0_wearOfAll 4 = .ok (.iload_n 2, 1) := by decide +kernel
theorem dX0_wearOfAll_5 : decode cX0_wearOfAll 5 = .ok (.bipush 32, 2) := by decide +kernel
theorem dX0_wearOfAll_7 : decode cX0_wearOfAll 7 = .ok (.if_icmp .ge 18, 3) := by decide +kernel
theorem dX0_wearOfAll_10 : decode cX0_wearOfAll 10 = .ok (.iload_n 1, 1) := by decide +kernel
theorem dX0_wearOfAll_11 : decode cX0_wearOfAll 11 = .ok (.aload_n 0, 1) := by decide +kernel
theorem dX0_wearOfAll_12 : decode cX0_wearOfAll 12 = .ok (.getfield 32, 3) := by decide +kernel
theorem dX0_wearOfAll_15 : decode cX0_wearOfAll 15 = .ok (.iload_n 2, 1) := by decide +kernel
theorem dX0_wearOfAll_16 : decode cX0_wearOfAll 16 = .ok (.iaload, 1) := by decide +kernel
theorem dX0_wearOfAll_17 : decode cX0_wearOfAll 17 = .ok (.iadd, 1) := by decide +kernel
theorem dX0_wearOfAll_18 : decode cX0_wearOfAll 18 = .ok (.istore_n 1, 1) := by decide +kernel
theorem dX0_wearOfAll_19 : decode cX0_wearOfAll 19 = .ok (.iinc 2 1, 3) := by decide +kernel
theorem dX0_wearOfAll_22 : decode cX0_wearOfAll 22 = .ok (.goto (-18), 3) := by decide +kernel
theorem dX0_wearOfAll_25 : decode cX0_wearOfAll 25 = .ok (.iload_n 1, 1) := by decide +kernel
theorem dX0_wearOfAll_26 : decode cX0_wearOfAll 26 = .ok (.ireturn, 1) := by decide +kernel
theorem dX0_blackAnew_0 : decode cX0_blackAnew 0 = .ok (.iconst 0, 1) := by decide +kernel
theorem dX0_blackAnew_1 : decode cX0_blackAnew 1 = .ok (.istore_n 1, 1) := by decide +kernel
theorem dX0_blackAnew_2 : decode cX0_blackAnew 2 = .ok (.iconst 0, 1) := by decide +kernel
theorem dX0_blackAnew_3 : decode cX0_blackAnew 3 = .ok (.istore_n 2, 1) := by decide +kernel
theorem dX0_blackAnew_4 : decode cX0_blackAnew 4 = .ok (.iload_n 2, 1) := by decide +kernel
theorem dX0_blackAnew_5 : decode cX0_blackAnew 5 = .ok (.aload_n 0, 1) := by decide +kernel
theorem dX0_blackAnew_6 : decode cX0_blackAnew 6 = .ok (.getfield 48, 3) := by decide +kernel
theorem dX0_blackAnew_9 : decode cX0_blackAnew 9 = .ok (.if_icmp .ge 18, 3) := by decide +kernel
theorem dX0_blackAnew_12 : decode cX0_blackAnew 12 = .ok (.iload_n 1, 1) := by decide +kernel
theorem dX0_blackAnew_13 : decode cX0_blackAnew 13 = .ok (.aload_n 0, 1) := by decide +kernel
theorem dX0_blackAnew_14 : decode cX0_blackAnew 14 = .ok (.getfield 45, 3) := by decide +kernel
theorem dX0_blackAnew_17 : decode cX0_blackAnew 17 = .ok (.iload_n 2, 1) := by decide +kernel
theorem dX0_blackAnew_18 : decode cX0_blackAnew 18 = .ok (.iaload, 1) := by decide +kernel
theorem dX0_blackAnew_19 : decode cX0_blackAnew 19 = .ok (.ixor, 1) := by decide +kernel
theorem dX0_blackAnew_20 : decode cX0_blackAnew 20 = .ok (.istore_n 1, 1) := by decide +kernel
theorem dX0_blackAnew_21 : decode cX0_blackAnew 21 = .ok (.iinc 2 1, 3) := by decide +kernel
theorem dX0_blackAnew_24 : decode cX0_blackAnew 24 = .ok (.goto (-20), 3) := by decide +kernel
theorem dX0_blackAnew_27 : decode cX0_blackAnew 27 = .ok (.iload_n 1, 1) := by decide +kernel
theorem dX0_blackAnew_28 : decode cX0_blackAnew 28 = .ok (.ireturn, 1) := by decide +kernel
theorem dX0_canWipe_0 : decode cX0_canWipe 0 = .ok (.iconst 0, 1) := by decide +kernel
theorem dX0_canWipe_1 : decode cX0_canWipe 1 = .ok (.istore_n 1, 1) := by decide +kernel
theorem dX0_canWipe_2 : decode cX0_canWipe 2 = .ok (.iload_n 1, 1) := by decide +kernel
theorem dX0_canWipe_3 : decode cX0_canWipe 3 = .ok (.bipush 32, 2) := by decide +kernel
theorem dX0_canWipe_5 : decode cX0_canWipe 5 = .ok (.if_icmp .ge 34, 3) := by decide +kernel
theorem dX0_canWipe_8 : decode cX0_canWipe 8 = .ok (.aload_n 0, 1) := by decide +kernel
theorem dX0_canWipe_9 : decode cX0_canWipe 9 = .ok (.getfield 29, 3) := by decide +kernel
theorem dX0_canWipe_12 : decode cX0_canWipe 12 = .ok (.iload_n 1, 1) := by decide +kernel
theorem dX0_canWipe_13 : decode cX0_canWipe 13 = .ok (.invokestatic 57, 3) := by decide +kernel
theorem dX0_canWipe_16 : decode cX0_canWipe 16 = .ok (.iconst 1, 1) := by decide +kernel
theorem dX0_canWipe_17 : decode cX0_canWipe 17 = .ok (.if_icmp .ne 16, 3) := by decide +kernel
theorem dX0_canWipe_20 : decode cX0_canWipe 20 = .ok (.aload_n 0, 1) := by decide +kernel
theorem dX0_canWipe_21 : decode cX0_canWipe 21 = .ok (.getfield 32, 3) := by decide +kernel
theorem dX0_canWipe_24 : decode cX0_canWipe 24 = .ok (.iload_n 1, 1) := by decide +kernel
theorem dX0_canWipe_25 : decode cX0_canWipe 25 = .ok (.iaload, 1) := by decide +kernel
theorem dX0_canWipe_26 : decode cX0_canWipe 26 = .ok (.bipush 60, 2) := by decide +kernel
theorem dX0_canWipe_28 : decode cX0_canWipe 28 = .ok (.if_icmp .lt 5, 3) := by decide +kernel
theorem dX0_canWipe_31 : decode cX0_canWipe 31 = .ok (.iconst 0, 1) := by decide +kernel
theorem dX0_canWipe_32 : decode cX0_canWipe 32 = .ok (.ireturn, 1) := by decide +kernel
theorem dX0_canWipe_33 : decode cX0_canWipe 33 = .ok (.iinc 1 1, 3) := by decide +kernel
theorem dX0_canWipe_36 : decode cX0_canWipe 36 = .ok (.goto (-34), 3) := by decide +kernel
theorem dX0_canWipe_39 : decode cX0_canWipe 39 = .ok (.aload_n 0, 1) := by decide +kernel
theorem dX0_canWipe_40 : decode cX0_canWipe 40 = .ok (.getfield 29, 3) := by decide +kernel
theorem dX0_canWipe_43 : decode cX0_canWipe 43 = .ok (.invokestatic 60, 3) := by decide +kernel
theorem dX0_canWipe_46 : decode cX0_canWipe 46 = .ok (.aload_n 0, 1) := by decide +kernel
theorem dX0_canWipe_47 : decode cX0_canWipe 47 = .ok (.getfield 15, 3) := by decide +kernel
theorem dX0_canWipe_50 : decode cX0_canWipe 50 = .ok (.if_icmp .gt 7, 3) := by decide +kernel
theorem dX0_canWipe_53 : decode cX0_canWipe 53 = .ok (.iconst 1, 1) := by decide +kernel
theorem dX0_canWipe_54 : decode cX0_canWipe 54 = .ok (.goto 4, 3) := by decide +kernel
theorem dX0_canWipe_57 : decode cX0_canWipe 57 = .ok (.iconst 0, 1) := by decide +kernel
theorem dX0_canWipe_58 : decode cX0_canWipe 58 = .ok (.ireturn, 1) := by decide +kernel
theorem dX0_wipe_0 : decode cX0_wipe 0 = .ok (.aload_n 0, 1) := by decide +kernel
theorem dX0_wipe_1 : decode cX0_wipe 1 = .ok (.aload_n 0, 1) := by decide +kernel
theorem dX0_wipe_2 : decode cX0_wipe 2 = .ok (.getfield 29, 3) := by decide +kernel
theorem dX0_wipe_5 : decode cX0_wipe 5 = .ok (.invokevirtual 66, 3) := by decide +kernel
theorem dX0_wipe_8 : decode cX0_wipe 8 = .ok (.aload_n 0, 1) := by decide +kernel
theorem dX0_wipe_9 : decode cX0_wipe 9 = .ok (.aconst_null, 1) := by decide +kernel
theorem dX0_wipe_10 : decode cX0_wipe 10 = .ok (.putfield 18, 3) := by decide +kernel
theorem dX0_wipe_13 : decode cX0_wipe 13 = .ok (.aload_n 0, 1) := by decide +kernel
theorem dX0_wipe_14 : decode cX0_wipe 14 = .ok (.iconst 0, 1) := by decide +kernel
theorem dX0_wipe_15 : decode cX0_wipe 15 = .ok (.putfield 22, 3) := by decide +kernel
theorem dX0_wipe_18 : decode cX0_wipe 18 = .ok (.return_, 1) := by decide +kernel
theorem dX0_takesUp_0 : decode cX0_takesUp 0 = .ok (.aload_n 0, 1) := by decide +kernel
theorem dX0_takesUp_1 : decode cX0_takesUp 1 = .ok (.getfield 18, 3) := by decide +kernel
theorem dX0_takesUp_4 : decode cX0_takesUp 4 = .ok (.aload_n 1, 1) := by decide +kernel
theorem dX0_takesUp_5 : decode cX0_takesUp 5 = .ok (.if_acmp .ne 5, 3) := by decide +kernel
theorem dX0_takesUp_8 : decode cX0_takesUp 8 = .ok (.iconst 1, 1) := by decide +kernel
theorem dX0_takesUp_9 : decode cX0_takesUp 9 = .ok (.ireturn, 1) := by decide +kernel
theorem dX0_takesUp_10 : decode cX0_takesUp 10 = .ok (.aload_n 0, 1) := by decide +kernel
theorem dX0_takesUp_11 : decode cX0_takesUp 11 = .ok (.aload_n 1, 1) := by decide +kernel
theorem dX0_takesUp_12 : decode cX0_takesUp 12 = .ok (.getfield 70, 3) := by decide +kernel
theorem dX0_takesUp_15 : decode cX0_takesUp 15 = .ok (.invokevirtual 75, 3) := by decide +kernel
theorem dX0_takesUp_18 : decode cX0_takesUp 18 = .ok (.istore_n 2, 1) := by decide +kernel
theorem dX0_takesUp_19 : decode cX0_takesUp 19 = .ok (.iload_n 2, 1) := by decide +kernel
theorem dX0_takesUp_20 : decode cX0_takesUp 20 = .ok (.iconst (-1), 1) := by decide +kernel
theorem dX0_takesUp_21 : decode cX0_takesUp 21 = .ok (.if_icmp .ne 5, 3) := by decide +kernel
theorem dX0_takesUp_24 : decode cX0_takesUp 24 = .ok (.iconst 0, 1) := by decide +kernel
theorem dX0_takesUp_25 : decode cX0_takesUp 25 = .ok (.ireturn, 1) := by decide +kernel
theorem dX0_takesUp_26 : decode cX0_takesUp 26 = .ok (.aload_n 0, 1) := by decide +kernel
theorem dX0_takesUp_27 : decode cX0_takesUp 27 = .ok (.aload_n 0, 1) := by decide +kernel
theorem dX0_takesUp_28 : decode cX0_takesUp 28 = .ok (.getfield 29, 3) := by decide +kernel
theorem dX0_takesUp_31 : decode cX0_takesUp 31 = .ok (.aload_n 1, 1) := by decide +kernel
theorem dX0_takesUp_32 : decode cX0_takesUp 32 = .ok (.getfield 70, 3) := by decide +kernel
theorem dX0_takesUp_35 : decode cX0_takesUp 35 = .ok (.iload_n 2, 1) := by decide +kernel
theorem dX0_takesUp_36 : decode cX0_takesUp 36 = .ok (.invokestatic 78, 3) := by decide +kernel
theorem dX0_takesUp_39 : decode cX0_takesUp 39 = .ok (.ixor, 1) := by decide +kernel
theorem dX0_takesUp_40 : decode cX0_takesUp 40 = .ok (.invokevirtual 66, 3) := by decide +kernel
theorem dX0_takesUp_43 : decode cX0_takesUp 43 = .ok (.aload_n 0, 1) := by decide +kernel
theorem dX0_takesUp_44 : decode cX0_takesUp 44 = .ok (.aload_n 1, 1) := by decide +kernel
theorem dX0_takesUp_45 : decode cX0_takesUp 45 = .ok (.putfield 18, 3) := by decide +kernel
theorem dX0_takesUp_48 : decode cX0_takesUp 48 = .ok (.aload_n 0, 1) := by decide +kernel
theorem dX0_takesUp_49 : decode cX0_takesUp 49 = .ok (.iload_n 2, 1) := by decide +kernel
theorem dX0_takesUp_50 : decode cX0_takesUp 50 = .ok (.putfield 22, 3) := by decide +kernel
theorem dX0_takesUp_53 : decode cX0_takesUp 53 = .ok (.iconst 1, 1) := by decide +kernel
theorem dX0_takesUp_54 : decode cX0_takesUp 54 = .ok (.ireturn, 1) := by decide +kernel
theorem dX0_bestShift_0 : decode cX0_bestShift 0 = .ok (.iconst (-1), 1) := by decide +kernel
theorem dX0_bestShift_1 : decode cX0_bestShift 1 = .ok (.istore_n 2, 1) := by decide +kernel
theorem dX0_bestShift_2 : decode cX0_bestShift 2 = .ok (.iconst 0, 1) := by decide +kernel
theorem dX0_bestShift_3 : decode cX0_bestShift 3 = .ok (.istore_n 3, 1) := by decide +kernel
theorem dX0_bestShift_4 : decode cX0_bestShift 4 = .ok (.iconst 0, 1) := by decide +kernel
theorem dX0_bestShift_5 : decode cX0_bestShift 5 = .ok (.istore 4, 2) := by decide +kernel
theorem dX0_bestShift_7 : decode cX0_bestShift 7 = .ok (.iconst 0, 1) := by decide +kernel
theorem dX0_bestShift_8 : decode cX0_bestShift 8 = .ok (.istore 5, 2) := by decide +kernel
theorem dX0_bestShift_10 : decode cX0_bestShift 10 = .ok (.iload 5, 2) := by decide +kernel
theorem dX0_bestShift_12 : decode cX0_bestShift 12 = .ok (.bipush 8, 2) := by decide +kernel
theorem dX0_bestShift_14 : decode cX0_bestShift 14 = .ok (.if_icmp .ge 85, 3) := by decide +kernel
theorem dX0_bestShift_17 : decode cX0_bestShift 17 = .ok (.iload_n 1, 1) := by decide +kernel
theorem dX0_bestShift_18 : decode cX0_bestShift 18 = .ok (.iload 5, 2) := by decide +kernel
theorem dX0_bestShift_20 : decode cX0_bestShift 20 = .ok (.invokestatic 78, 3) := by decide +kernel
theorem dX0_bestShift_23 : decode cX0_bestShift 23 = .ok (.istore 6, 2) := by decide +kernel
theorem dX0_bestShift_25 : decode cX0_bestShift 25 = .ok (.aload_n 0, 1) := by decide +kernel
theorem dX0_bestShift_26 : decode cX0_bestShift 26 = .ok (.iload 6, 2) := by decide +kernel
theorem dX0_bestShift_28 : decode cX0_bestShift 28 = .ok (.invokevirtual 81, 3) := by decide +kernel
theorem dX0_bestShift_31 : decode cX0_bestShift 31 = .ok (.ifCond .eq 62, 3) := by decide +kernel
theorem dX0_bestShift_34 : decode cX0_bestShift 34 = .ok (.aload_n 0, 1) := by decide +kernel
theorem dX0_bestShift_35 : decode cX0_bestShift 35 = .ok (.aload_n 0, 1) := by decide +kernel
theorem dX0_bestShift_36 : decode cX0_bestShift 36 = .ok (.getfield 29, 3) := by decide +kernel
theorem dX0_bestShift_39 : decode cX0_bestShift 39 = .ok (.iload 6, 2) := by decide +kernel
theorem dX0_bestShift_41 : decode cX0_bestShift 41 = .ok (.ixor, 1) := by decide +kernel
theorem dX0_bestShift_42 : decode cX0_bestShift 42 = .ok (.invokevirtual 85, 3) := by decide +kernel
theorem dX0_bestShift_45 : decode cX0_bestShift 45 = .ok (.istore 7, 2) := by decide +kernel
theorem dX0_bestShift_47 : decode cX0_bestShift 47 = .ok (.aload_n 0, 1) := by decide +kernel
theorem dX0_bestShift_48 : decode cX0_bestShift 48 = .ok (.getfield 29, 3) := by decide +kernel
theorem dX0_bestShift_51 : decode cX0_bestShift 51 = .ok (.iload 6, 2) := by decide +kernel
theorem dX0_bestShift_53 : decode cX0_bestShift 53 = .ok (.ixor, 1) := by decide +kernel
theorem dX0_bestShift_54 : decode cX0_bestShift 54 = .ok (.invokestatic 60, 3) := by decide +kernel
theorem dX0_bestShift_57 : decode cX0_bestShift 57 = .ok (.istore 8, 2) := by decide +kernel
theorem dX0_bestShift_59 : decode cX0_bestShift 59 = .ok (.iload_n 2, 1) := by decide +kernel
theorem dX0_bestShift_60 : decode cX0_bestShift 60 = .ok (.iconst (-1), 1) := by decide +kernel
theorem dX0_bestShift_61 : decode cX0_bestShift 61 = .ok (.if_icmp .eq 22, 3) := by decide +kernel
theorem dX0_bestShift_64 : decode cX0_bestShift 64 = .ok (.iload 7, 2) := by decide +kernel
theorem dX0_bestShift_66 : decode cX0_bestShift 66 = .ok (.iload_n 3, 1) := by decide +kernel
theorem dX0_bestShift_67 : decode cX0_bestShift 67 = .ok (.if_icmp .lt 16, 3) := by decide +kernel
theorem dX0_bestShift_70 : decode cX0_bestShift 70 = .ok (.iload 7, 2) := by decide +kernel
theorem dX0_bestShift_72 : decode cX0_bestShift 72 = .ok (.iload_n 3, 1) := by decide +kernel
theorem dX0_bestShift_73 : decode cX0_bestShift 73 = .ok (.if_icmp .ne 20, 3) := by decide +kernel
theorem dX0_bestShift_76 : decode cX0_bestShift 76 = .ok (.iload 8, 2) := by decide +kernel
theorem dX0_bestShift_78 : decode cX0_bestShift 78 = .ok (.iload 4, 2) := by decide +kernel
theorem dX0_bestShift_80 : decode cX0_bestShift 80 = .ok (.if_icmp .ge 13, 3) := by decide +kernel
theorem dX0_bestShift_83 : decode cX0_bestShift 83 = .ok (.iload 5, 2) := by decide +kernel
theorem dX0_bestShift_85 : decode cX0_bestShift 85 = .ok (.istore_n 2, 1) := by decide +kernel
theorem dX0_bestShift_86 : decode cX0_bestShift 86 = .ok (.iload 7, 2) := by decide +kernel
theorem dX0_bestShift_88 : decode cX0_bestShift 88 = .ok (.istore_n 3, 1) := by decide +kernel
theorem dX0_bestShift_89 : decode cX0_bestShift 89 = .ok (.iload 8, 2) := by decide +kernel
theorem dX0_bestShift_91 : decode cX0_bestShift 91 = .ok (.istore 4, 2) := by decide +kernel
theorem dX0_bestShift_93 : decode cX0_bestShift 93 = .ok (.iinc 5 1, 3) := by decide +kernel
theorem dX0_bestShift_96 : decode cX0_bestShift 96 = .ok (.goto (-86), 3) := by decide +kernel
theorem dX0_bestShift_99 : decode cX0_bestShift 99 = .ok (.iload_n 2, 1) := by decide +kernel
theorem dX0_bestShift_100 : decode cX0_bestShift 100 = .ok (.ireturn, 1) := by decide +kernel
theorem dX0_canTurnTo_0 : decode cX0_canTurnTo 0 = .ok (.aload_n 0, 1) := by decide +kernel
theorem dX0_canTurnTo_1 : decode cX0_canTurnTo 1 = .ok (.getfield 29, 3) := by decide +kernel
theorem dX0_canTurnTo_4 : decode cX0_canTurnTo 4 = .ok (.iload_n 1, 1) := by decide +kernel
theorem dX0_canTurnTo_5 : decode cX0_canTurnTo 5 = .ok (.ixor, 1) := by decide +kernel
theorem dX0_canTurnTo_6 : decode cX0_canTurnTo 6 = .ok (.istore_n 2, 1) := by decide +kernel
theorem dX0_canTurnTo_7 : decode cX0_canTurnTo 7 = .ok (.iload_n 2, 1) := by decide +kernel
theorem dX0_canTurnTo_8 : decode cX0_canTurnTo 8 = .ok (.iload_n 1, 1) := by decide +kernel
theorem dX0_canTurnTo_9 : decode cX0_canTurnTo 9 = .ok (.ior, 1) := by decide +kernel
theorem dX0_canTurnTo_10 : decode cX0_canTurnTo 10 = .ok (.aload_n 0, 1) := by decide +kernel
theorem dX0_canTurnTo_11 : decode cX0_canTurnTo 11 = .ok (.getfield 42, 3) := by decide +kernel
theorem dX0_canTurnTo_14 : decode cX0_canTurnTo 14 = .ok (.iand, 1) := by decide +kernel
theorem dX0_canTurnTo_15 : decode cX0_canTurnTo 15 = .ok (.ifCond .ne 23, 3) := by decide +kernel
theorem dX0_canTurnTo_18 : decode cX0_canTurnTo 18 = .ok (.iload_n 2, 1) := by decide +kernel
theorem dX0_canTurnTo_19 : decode cX0_canTurnTo 19 = .ok (.invokestatic 60, 3) := by decide +kernel
theorem dX0_canTurnTo_22 : decode cX0_canTurnTo 22 = .ok (.iload_n 1, 1) := by decide +kernel
theorem dX0_canTurnTo_23 : decode cX0_canTurnTo 23 = .ok (.invokestatic 60, 3) := by decide +kernel
theorem dX0_canTurnTo_26 : decode cX0_canTurnTo 26 = .ok (.iadd, 1) := by decide +kernel
theorem dX0_canTurnTo_27 : decode cX0_canTurnTo 27 = .ok (.aload_n 0, 1) := by decide +kernel
theorem dX0_canTurnTo_28 : decode cX0_canTurnTo 28 = .ok (.getfield 15, 3) := by decide +kernel
theorem dX0_canTurnTo_31 : decode cX0_canTurnTo 31 = .ok (.if_icmp .gt 7, 3) := by decide +kernel
theorem dX0_canTurnTo_34 : decode cX0_canTurnTo 34 = .ok (.iconst 1, 1) := by decide +kernel
theorem dX0_canTurnTo_35 : decode cX0_canTurnTo 35 = .ok (.goto 4, 3) := by decide +kernel
theorem dX0_canTurnTo_38 : decode cX0_canTurnTo 38 = .ok (.iconst 0, 1) := by decide +kernel
theorem dX0_canTurnTo_39 : decode cX0_canTurnTo 39 = .ok (.ireturn, 1) := by decide +kernel
theorem dX0_greatestWearBehind_0 : decode cX0_greatestWearBehind 0 = .ok (.iload_n 1, 1) := by decide +kernel
theorem dX0_greatestWearBehind_1 : decode cX0_greatestWearBehind 1 = .ok (.aload_n 0, 1) := by decide +kernel
theorem dX0_greatestWearBehind_2 : decode cX0_greatestWearBehind 2 = .ok (.getfield 39, 3) := by decide +kernel
theorem dX0_greatestWearBehind_5 : decode cX0_greatestWearBehind 5 = .ok (.iand, 1) := by decide +kernel
theorem dX0_greatestWearBehind_6 : decode cX0_greatestWearBehind 6 = .ok (.ifCond .ne 10, 3) := by decide +kernel
theorem dX0_greatestWearBehind_9 : decode cX0_greatestWearBehind 9 = .ok (.aload_n 0, 1) := by decide +kernel
theorem dX0_greatestWearBehind_10 : decode cX0_greatestWearBehind 10 = .ok (.getfield 36, 3) := by decide +kernel
theorem dX0_greatestWearBehind_13 : decode cX0_greatestWearBehind 13 = .ok (.goto 9, 3) := by decide +kernel
theorem dX0_greatestWearBehind_16 : decode cX0_greatestWearBehind 16 = .ok (.aload_n 0, 1) := by decide +kernel
theorem dX0_greatestWearBehind_17 : decode cX0_greatestWearBehind 17 = .ok (.getfield 36, 3) := by decide +kernel
theorem dX0_greatestWearBehind_20 : decode cX0_greatestWearBehind 20 = .ok (.iconst 1, 1) := by decide +kernel
theorem dX0_greatestWearBehind_21 : decode cX0_greatestWearBehind 21 = .ok (.iadd, 1) := by decide +kernel
theorem dX0_greatestWearBehind_22 : decode cX0_greatestWearBehind 22 = .ok (.ireturn, 1) := by decide +kernel
theorem dX0_change_0 : decode cX0_change 0 = .ok (.aload_n 0, 1) := by decide +kernel
theorem dX0_change_1 : decode cX0_change 1 = .ok (.dup, 1) := by decide +kernel
theorem dX0_change_2 : decode cX0_change 2 = .ok (.getfield 15, 3) := by decide +kernel
theorem dX0_change_5 : decode cX0_change 5 = .ok (.iload_n 1, 1) := by decide +kernel
theorem dX0_change_6 : decode cX0_change 6 = .ok (.invokestatic 60, 3) := by decide +kernel
theorem dX0_change_9 : decode cX0_change 9 = .ok (.isub, 1) := by decide +kernel
theorem dX0_change_10 : decode cX0_change 10 = .ok (.putfield 15, 3) := by decide +kernel
theorem dX0_change_13 : decode cX0_change 13 = .ok (.aload_n 0, 1) := by decide +kernel
theorem dX0_change_14 : decode cX0_change 14 = .ok (.dup, 1) := by decide +kernel
theorem dX0_change_15 : decode cX0_change 15 = .ok (.getfield 29, 3) := by decide +kernel
theorem dX0_change_18 : decode cX0_change 18 = .ok (.iload_n 1, 1) := by decide +kernel
theorem dX0_change_19 : decode cX0_change 19 = .ok (.ixor, 1) := by decide +kernel
theorem dX0_change_20 : decode cX0_change 20 = .ok (.putfield 29, 3) := by decide +kernel
theorem dX0_change_23 : decode cX0_change 23 = .ok (.iload_n 1, 1) := by decide +kernel
theorem dX0_change_24 : decode cX0_change 24 = .ok (.ifCond .eq 35, 3) := by decide +kernel
theorem dX0_change_27 : decode cX0_change 27 = .ok (.aload_n 0, 1) := by decide +kernel
theorem dX0_change_28 : decode cX0_change 28 = .ok (.getfield 48, 3) := by decide +kernel
theorem dX0_change_31 : decode cX0_change 31 = .ok (.aload_n 0, 1) := by decide +kernel
theorem dX0_change_32 : decode cX0_change 32 = .ok (.getfield 45, 3) := by decide +kernel
theorem dX0_change_35 : decode cX0_change 35 = .ok (.arraylength, 1) := by decide +kernel
theorem dX0_change_36 : decode cX0_change 36 = .ok (.if_icmp .ge 23, 3) := by decide +kernel
theorem dX0_change_39 : decode cX0_change 39 = .ok (.aload_n 0, 1) := by decide +kernel
theorem dX0_change_40 : decode cX0_change 40 = .ok (.getfield 45, 3) := by decide +kernel
theorem dX0_change_43 : decode cX0_change 43 = .ok (.aload_n 0, 1) := by decide +kernel
theorem dX0_change_44 : decode cX0_change 44 = .ok (.getfield 48, 3) := by decide +kernel
theorem dX0_change_47 : decode cX0_change 47 = .ok (.iload_n 1, 1) := by decide +kernel
theorem dX0_change_48 : decode cX0_change 48 = .ok (.iastore, 1) := by decide +kernel
theorem dX0_change_49 : decode cX0_change 49 = .ok (.aload_n 0, 1) := by decide +kernel
theorem dX0_change_50 : decode cX0_change 50 = .ok (.dup, 1) := by decide +kernel
theorem dX0_change_51 : decode cX0_change 51 = .ok (.getfield 48, 3) := by decide +kernel
theorem dX0_change_54 : decode cX0_change 54 = .ok (.iconst 1, 1) := by decide +kernel
theorem dX0_change_55 : decode cX0_change 55 = .ok (.iadd, 1) := by decide +kernel
theorem dX0_change_56 : decode cX0_change 56 = .ok (.putfield 48, 3) := by decide +kernel
theorem dX0_change_59 : decode cX0_change 59 = .ok (.iconst 0, 1) := by decide +kernel
theorem dX0_change_60 : decode cX0_change 60 = .ok (.istore_n 2, 1) := by decide +kernel
theorem dX0_change_61 : decode cX0_change 61 = .ok (.iload_n 2, 1) := by decide +kernel
theorem dX0_change_62 : decode cX0_change 62 = .ok (.bipush 32, 2) := by decide +kernel
theorem dX0_change_64 : decode cX0_change 64 = .ok (.if_icmp .ge 23, 3) := by decide +kernel
theorem dX0_change_67 : decode cX0_change 67 = .ok (.iload_n 1, 1) := by decide +kernel
theorem dX0_change_68 : decode cX0_change 68 = .ok (.iload_n 2, 1) := by decide +kernel
theorem dX0_change_69 : decode cX0_change 69 = .ok (.invokestatic 57, 3) := by decide +kernel
theorem dX0_change_72 : decode cX0_change 72 = .ok (.iconst 1, 1) := by decide +kernel
theorem dX0_change_73 : decode cX0_change 73 = .ok (.if_icmp .ne 8, 3) := by decide +kernel
theorem dX0_change_76 : decode cX0_change 76 = .ok (.aload_n 0, 1) := by decide +kernel
theorem dX0_change_77 : decode cX0_change 77 = .ok (.iload_n 2, 1) := by decide +kernel
theorem dX0_change_78 : decode cX0_change 78 = .ok (.invokevirtual 88, 3) := by decide +kernel
theorem dX0_change_81 : decode cX0_change 81 = .ok (.iinc 2 1, 3) := by decide +kernel
theorem dX0_change_84 : decode cX0_change 84 = .ok (.goto (-23), 3) := by decide +kernel
theorem dX0_change_87 : decode cX0_change 87 = .ok (.return_, 1) := by decide +kernel
theorem dX0_wearOut_0 : decode cX0_wearOut 0 = .ok (.iload_n 1, 1) := by decide +kernel
theorem dX0_wearOut_1 : decode cX0_wearOut 1 = .ok (.ifCond .lt 9, 3) := by decide +kernel
theorem dX0_wearOut_4 : decode cX0_wearOut 4 = .ok (.iload_n 1, 1) := by decide +kernel
theorem dX0_wearOut_5 : decode cX0_wearOut 5 = .ok (.bipush 32, 2) := by decide +kernel
theorem dX0_wearOut_7 : decode cX0_wearOut 7 = .ok (.if_icmp .lt 4, 3) := by decide +kernel
theorem dX0_wearOut_10 : decode cX0_wearOut 10 = .ok (.return_, 1) := by decide +kernel
theorem dX0_wearOut_11 : decode cX0_wearOut 11 = .ok (.aload_n 0, 1) := by decide +kernel
theorem dX0_wearOut_12 : decode cX0_wearOut 12 = .ok (.getfield 32, 3) := by decide +kernel
theorem dX0_wearOut_15 : decode cX0_wearOut 15 = .ok (.iload_n 1, 1) := by decide +kernel
theorem dX0_wearOut_16 : decode cX0_wearOut 16 = .ok (.dup2, 1) := by decide +kernel
theorem dX0_wearOut_17 : decode cX0_wearOut 17 = .ok (.iaload, 1) := by decide +kernel
theorem dX0_wearOut_18 : decode cX0_wearOut 18 = .ok (.iconst 1, 1) := by decide +kernel
theorem dX0_wearOut_19 : decode cX0_wearOut 19 = .ok (.iadd, 1) := by decide +kernel
theorem dX0_wearOut_20 : decode cX0_wearOut 20 = .ok (.iastore, 1) := by decide +kernel
theorem dX0_wearOut_21 : decode cX0_wearOut 21 = .ok (.aload_n 0, 1) := by decide +kernel
theorem dX0_wearOut_22 : decode cX0_wearOut 22 = .ok (.getfield 32, 3) := by decide +kernel
theorem dX0_wearOut_25 : decode cX0_wearOut 25 = .ok (.iload_n 1, 1) := by decide +kernel
theorem dX0_wearOut_26 : decode cX0_wearOut 26 = .ok (.iaload, 1) := by decide +kernel
theorem dX0_wearOut_27 : decode cX0_wearOut 27 = .ok (.istore_n 2, 1) := by decide +kernel
theorem dX0_wearOut_28 : decode cX0_wearOut 28 = .ok (.iconst 1, 1) := by decide +kernel
theorem dX0_wearOut_29 : decode cX0_wearOut 29 = .ok (.iload_n 1, 1) := by decide +kernel
theorem dX0_wearOut_30 : decode cX0_wearOut 30 = .ok (.ishl, 1) := by decide +kernel
theorem dX0_wearOut_31 : decode cX0_wearOut 31 = .ok (.istore_n 3, 1) := by decide +kernel
theorem dX0_wearOut_32 : decode cX0_wearOut 32 = .ok (.iload_n 2, 1) := by decide +kernel
theorem dX0_wearOut_33 : decode cX0_wearOut 33 = .ok (.aload_n 0, 1) := by decide +kernel
theorem dX0_wearOut_34 : decode cX0_wearOut 34 = .ok (.getfield 36, 3) := by decide +kernel
theorem dX0_wearOut_37 : decode cX0_wearOut 37 = .ok (.if_icmp .le 13, 3) := by decide +kernel
theorem dX0_wearOut_40 : decode cX0_wearOut 40 = .ok (.aload_n 0, 1) := by decide +kernel
theorem dX0_wearOut_41 : decode cX0_wearOut 41 = .ok (.iload_n 2, 1) := by decide +kernel
theorem dX0_wearOut_42 : decode cX0_wearOut 42 = .ok (.putfield 36, 3) := by decide +kernel
theorem dX0_wearOut_45 : decode cX0_wearOut 45 = .ok (.aload_n 0, 1) := by decide +kernel
theorem dX0_wearOut_46 : decode cX0_wearOut 46 = .ok (.iconst 0, 1) := by decide +kernel
theorem dX0_wearOut_47 : decode cX0_wearOut 47 = .ok (.putfield 39, 3) := by decide +kernel
theorem dX0_wearOut_50 : decode cX0_wearOut 50 = .ok (.iload_n 2, 1) := by decide +kernel
theorem dX0_wearOut_51 : decode cX0_wearOut 51 = .ok (.aload_n 0, 1) := by decide +kernel
theorem dX0_wearOut_52 : decode cX0_wearOut 52 = .ok (.getfield 36, 3) := by decide +kernel
theorem dX0_wearOut_55 : decode cX0_wearOut 55 = .ok (.if_icmp .ne 13, 3) := by decide +kernel
theorem dX0_wearOut_58 : decode cX0_wearOut 58 = .ok (.aload_n 0, 1) := by decide +kernel
theorem dX0_wearOut_59 : decode cX0_wearOut 59 = .ok (.dup, 1) := by decide +kernel
theorem dX0_wearOut_60 : decode cX0_wearOut 60 = .ok (.getfield 39, 3) := by decide +kernel
theorem dX0_wearOut_63 : decode cX0_wearOut 63 = .ok (.iload_n 3, 1) := by decide +kernel
theorem dX0_wearOut_64 : decode cX0_wearOut 64 = .ok (.ior, 1) := by decide +kernel
theorem dX0_wearOut_65 : decode cX0_wearOut 65 = .ok (.putfield 39, 3) := by decide +kernel
theorem dX0_wearOut_68 : decode cX0_wearOut 68 = .ok (.iload_n 2, 1) := by decide +kernel
theorem dX0_wearOut_69 : decode cX0_wearOut 69 = .ok (.bipush 60, 2) := by decide +kernel
theorem dX0_wearOut_71 : decode cX0_wearOut 71 = .ok (.if_icmp .lt 13, 3) := by decide +kernel
theorem dX0_wearOut_74 : decode cX0_wearOut 74 = .ok (.aload_n 0, 1) := by decide +kernel
theorem dX0_wearOut_75 : decode cX0_wearOut 75 = .ok (.dup, 1) := by decide +kernel
theorem dX0_wearOut_76 : decode cX0_wearOut 76 = .ok (.getfield 42, 3) := by decide +kernel
theorem dX0_wearOut_79 : decode cX0_wearOut 79 = .ok (.iload_n 3, 1) := by decide +kernel
theorem dX0_wearOut_80 : decode cX0_wearOut 80 = .ok (.ior, 1) := by decide +kernel
theorem dX0_wearOut_81 : decode cX0_wearOut 81 = .ok (.putfield 42, 3) := by decide +kernel
theorem dX0_wearOut_84 : decode cX0_wearOut 84 = .ok (.return_, 1) := by decide +kernel
theorem dX1_init_0 : decode cX1_init 0 = .ok (.aload_n 0, 1) := by decide +kernel
theorem dX1_init_1 : decode cX1_init 1 = .ok (.invokespecial 3, 3) := by decide +kernel
theorem dX1_init_4 : decode cX1_init 4 = .ok (.aload_n 0, 1) := by decide +kernel
theorem dX1_init_5 : decode cX1_init 5 = .ok (.bipush 6, 2) := by decide +kernel
theorem dX1_init_7 : decode cX1_init 7 = .ok (.newarray .int, 2) := by decide +kernel
theorem dX1_init_9 : decode cX1_init 9 = .ok (.putfield 9, 3) := by decide +kernel
theorem dX1_init_12 : decode cX1_init 12 = .ok (.aload_n 0, 1) := by decide +kernel
theorem dX1_init_13 : decode cX1_init 13 = .ok (.iconst 0, 1) := by decide +kernel
theorem dX1_init_14 : decode cX1_init 14 = .ok (.putfield 15, 3) := by decide +kernel
theorem dX1_init_17 : decode cX1_init 17 = .ok (.aload_n 0, 1) := by decide +kernel
theorem dX1_init_18 : decode cX1_init 18 = .ok (.iconst 0, 1) := by decide +kernel
theorem dX1_init_19 : decode cX1_init 19 = .ok (.putfield 19, 3) := by decide +kernel
theorem dX1_init_22 : decode cX1_init 22 = .ok (.aload_n 0, 1) := by decide +kernel
theorem dX1_init_23 : decode cX1_init 23 = .ok (.iconst 0, 1) := by decide +kernel
theorem dX1_init_24 : decode cX1_init 24 = .ok (.putfield 22, 3) := by decide +kernel
theorem dX1_init_27 : decode cX1_init 27 = .ok (.aload_n 0, 1) := by decide +kernel
theorem dX1_init_28 : decode cX1_init 28 = .ok (.iconst 0, 1) := by decide +kernel
theorem dX1_init_29 : decode cX1_init 29 = .ok (.putfield 25, 3) := by decide +kernel
theorem dX1_init_32 : decode cX1_init 32 = .ok (.aload_n 0, 1) := by decide +kernel
theorem dX1_init_33 : decode cX1_init 33 = .ok (.iconst 0, 1) := by decide +kernel
theorem dX1_init_34 : decode cX1_init 34 = .ok (.putfield 28, 3) := by decide +kernel
theorem dX1_init_37 : decode cX1_init 37 = .ok (.aload_n 0, 1) := by decide +kernel
theorem dX1_init_38 : decode cX1_init 38 = .ok (.iconst 0, 1) := by decide +kernel
theorem dX1_init_39 : decode cX1_init 39 = .ok (.putfield 32, 3) := by decide +kernel
theorem dX1_init_42 : decode cX1_init 42 = .ok (.aload_n 0, 1) := by decide +kernel
theorem dX1_init_43 : decode cX1_init 43 = .ok (.iconst 0, 1) := by decide +kernel
theorem dX1_init_44 : decode cX1_init 44 = .ok (.putfield 35, 3) := by decide +kernel
theorem dX1_init_47 : decode cX1_init 47 = .ok (.aload_n 0, 1) := by decide +kernel
theorem dX1_init_48 : decode cX1_init 48 = .ok (.iload_n 1, 1) := by decide +kernel
theorem dX1_init_49 : decode cX1_init 49 = .ok (.putfield 38, 3) := by decide +kernel
theorem dX1_init_52 : decode cX1_init 52 = .ok (.return_, 1) := by decide +kernel
theorem dX1_fill_0 : decode cX1_fill 0 = .ok (.aload_n 0, 1) := by decide +kernel
theorem dX1_fill_1 : decode cX1_fill 1 = .ok (.iload_n 1, 1) := by decide +kernel
theorem dX1_fill_2 : decode cX1_fill 2 = .ok (.putfield 15, 3) := by decide +kernel
theorem dX1_fill_5 : decode cX1_fill 5 = .ok (.aload_n 0, 1) := by decide +kernel
theorem dX1_fill_6 : decode cX1_fill 6 = .ok (.iload_n 2, 1) := by decide +kernel
theorem dX1_fill_7 : decode cX1_fill 7 = .ok (.putfield 19, 3) := by decide +kernel
theorem dX1_fill_10 : decode cX1_fill 10 = .ok (.aload_n 0, 1) := by decide +kernel
theorem dX1_fill_11 : decode cX1_fill 11 = .ok (.iload_n 3, 1) := by decide +kernel
theorem dX1_fill_12 : decode cX1_fill 12 = .ok (.putfield 22, 3) := by decide +kernel
theorem dX1_fill_15 : decode cX1_fill 15 = .ok (.aload_n 0, 1) := by decide +kernel
theorem dX1_fill_16 : decode cX1_fill 16 = .ok (.iload 4, 2) := by decide +kernel
theorem dX1_fill_18 : decode cX1_fill 18 = .ok (.putfield 25, 3) := by decide +kernel
theorem dX1_fill_21 : decode cX1_fill 21 = .ok (.return_, 1) := by decide +kernel
theorem dX1_isOver_0 : decode cX1_isOver 0 = .ok (.aload_n 0, 1) := by decide +kernel
theorem dX1_isOver_1 : decode cX1_isOver 1 = .ok (.getfield 25, 3) := by decide +kernel
theorem dX1_isOver_4 : decode cX1_isOver 4 = .ok (.iload_n 1, 1) := by decide +kernel
theorem dX1_isOver_5 : decode cX1_isOver 5 = .ok (.if_icmp .gt 7, 3) := by decide +kernel
theorem dX1_isOver_8 : decode cX1_isOver 8 = .ok (.iconst 1, 1) := by decide +kernel
theorem dX1_isOver_9 : decode cX1_isOver 9 = .ok (.goto 4, 3) := by decide +kernel
theorem dX1_isOver_12 : decode cX1_isOver 12 = .ok (.iconst 0, 1) := by decide +kernel
theorem dX1_isOver_13 : decode cX1_isOver 13 = .ok (.ireturn, 1) := by decide +kernel
theorem dX1_isOf_0 : decode cX1_isOf 0 = .ok (.aload_n 0, 1) := by decide +kernel
theorem dX1_isOf_1 : decode cX1_isOf 1 = .ok (.getfield 22, 3) := by decide +kernel
theorem dX1_isOf_4 : decode cX1_isOf 4 = .ok (.iload_n 1, 1) := by decide +kernel
theorem dX1_isOf_5 : decode cX1_isOf 5 = .ok (.if_icmp .gt 15, 3) := by decide +kernel
theorem dX1_isOf_8 : decode cX1_isOf 8 = .ok (.iload_n 1, 1) := by decide +kernel
theorem dX1_isOf_9 : decode cX1_isOf 9 = .ok (.aload_n 0, 1) := by decide +kernel
theorem dX1_isOf_10 : decode cX1_isOf 10 = .ok (.getfield 25, 3) := by decide +kernel
theorem dX1_isOf_13 : decode cX1_isOf 13 = .ok (.if_icmp .ge 7, 3) := by decide +kernel
theorem dX1_isOf_16 : decode cX1_isOf 16 = .ok (.iconst 1, 1) := by decide +kernel
theorem dX1_isOf_17 : decode cX1_isOf 17 = .ok (.goto 4, 3) := by decide +kernel
theorem dX1_isOf_20 : decode cX1_isOf 20 = .ok (.iconst 0, 1) := by decide +kernel
theorem dX1_isOf_21 : decode cX1_isOf 21 = .ok (.ireturn, 1) := by decide +kernel
theorem dX1_putInto_0 : decode cX1_putInto 0 = .ok (.aload_n 0, 1) := by decide +kernel
theorem dX1_putInto_1 : decode cX1_putInto 1 = .ok (.dup, 1) := by decide +kernel
theorem dX1_putInto_2 : decode cX1_putInto 2 = .ok (.getfield 35, 3) := by decide +kernel
theorem dX1_putInto_5 : decode cX1_putInto 5 = .ok (.iconst 1, 1) := by decide +kernel
theorem dX1_putInto_6 : decode cX1_putInto 6 = .ok (.iload_n 1, 1) := by decide +kernel
theorem dX1_putInto_7 : decode cX1_putInto 7 = .ok (.ishl, 1) := by decide +kernel
theorem dX1_putInto_8 : decode cX1_putInto 8 = .ok (.ior, 1) := by decide +kernel
theorem dX1_putInto_9 : decode cX1_putInto 9 = .ok (.putfield 35, 3) := by decide +kernel
theorem dX1_putInto_12 : decode cX1_putInto 12 = .ok (.return_, 1) := by decide +kernel
theorem dX1_isQueuedIn_0 : decode cX1_isQueuedIn 0 = .ok (.aload_n 0, 1) := by decide +kernel
theorem dX1_isQueuedIn_1 : decode cX1_isQueuedIn 1 = .ok (.getfield 35, 3) := by decide +kernel
theorem dX1_isQueuedIn_4 : decode cX1_isQueuedIn 4 = .ok (.iload_n 1, 1) := by decide +kernel
theorem dX1_isQueuedIn_5 : decode cX1_isQueuedIn 5 = .ok (.invokestatic 41, 3) := by decide +kernel
theorem dX1_isQueuedIn_8 : decode cX1_isQueuedIn 8 = .ok (.iconst 1, 1) := by decide +kernel
theorem dX1_isQueuedIn_9 : decode cX1_isQueuedIn 9 = .ok (.if_icmp .ne 15, 3) := by decide +kernel
theorem dX1_isQueuedIn_12 : decode cX1_isQueuedIn 12 = .ok (.aload_n 0, 1) := by decide +kernel
theorem dX1_isQueuedIn_13 : decode cX1_isQueuedIn 13 = .ok (.iload_n 2, 1) := by decide +kernel
theorem dX1_isQueuedIn_14 : decode cX1_isQueuedIn 14 = .ok (.invokevirtual 45, 3) := by decide +kernel
theorem dX1_isQueuedIn_17 : decode cX1_isQueuedIn 17 = .ok (.ifCond .ne 7, 3) := by decide +kernel
theorem dX1_isQueuedIn_20 : decode cX1_isQueuedIn 20 = .ok (.iconst 1, 1) := by decide +kernel
theorem dX1_isQueuedIn_21 : decode cX1_isQueuedIn 21 = .ok (.goto 4, 3) := by decide +kernel
theorem dX1_isQueuedIn_24 : decode cX1_isQueuedIn 24 = .ok (.iconst 0, 1) := by decide +kernel
theorem dX1_isQueuedIn_25 : decode cX1_isQueuedIn 25 = .ok (.ireturn, 1) := by decide +kernel
theorem dX1_canHaveMade_0 : decode cX1_canHaveMade 0 = .ok (.iconst 0, 1) := by decide +kernel
theorem dX1_canHaveMade_1 : decode cX1_canHaveMade 1 = .ok (.istore_n 2, 1) := by decide +kernel
theorem dX1_canHaveMade_2 : decode cX1_canHaveMade 2 = .ok (.iload_n 2, 1) := by decide +kernel
theorem dX1_canHaveMade_3 : decode cX1_canHaveMade 3 = .ok (.bipush 8, 2) := by decide +kernel
theorem dX1_canHaveMade_5 : decode cX1_canHaveMade 5 = .ok (.if_icmp .ge 26, 3) := by decide +kernel
theorem dX1_canHaveMade_8 : decode cX1_canHaveMade 8 = .ok (.iload_n 1, 1) := by decide +kernel
theorem dX1_canHaveMade_9 : decode cX1_canHaveMade 9 = .ok (.aload_n 0, 1) := by decide +kernel
theorem dX1_canHaveMade_10 : decode cX1_canHaveMade 10 = .ok (.getfield 19, 3) := by decide +kernel
theorem dX1_canHaveMade_13 : decode cX1_canHaveMade 13 = .ok (.iload_n 2, 1) := by decide +kernel
theorem dX1_canHaveMade_14 : decode cX1_canHaveMade 14 = .ok (.invokestatic 49, 3) := by decide +kernel
theorem dX1_canHaveMade_17 : decode cX1_canHaveMade 17 = .ok (.iconst (-1), 1) := by decide +kernel
theorem dX1_canHaveMade_18 : decode cX1_canHaveMade 18 = .ok (.ixor, 1) := by decide +kernel
theorem dX1_canHaveMade_19 : decode cX1_canHaveMade 19 = .ok (.iand, 1) := by decide +kernel
theorem dX1_canHaveMade_20 : decode cX1_canHaveMade 20 = .ok (.ifCond .ne 5, 3) := by decide +kernel
theorem dX1_canHaveMade_23 : decode cX1_canHaveMade 23 = .ok (.iconst 1, 1) := by decide +kernel
theorem dX1_canHaveMade_24 : decode cX1_canHaveMade 24 = .ok (.ireturn, 1) := by decide +kernel
theorem dX1_canHaveMade_25 : decode cX1_canHaveMade 25 = .ok (.iinc 2 1, 3) := by decide +kernel
theorem dX1_canHaveMade_28 : decode cX1_canHaveMade 28 = .ok (.goto (-26), 3) := by decide +kernel
theorem dX1_canHaveMade_31 : decode cX1_canHaveMade 31 = .ok (.iconst 0, 1) := by decide +kernel
theorem dX1_canHaveMade_32 : decode cX1_canHaveMade 32 = .ok (.ireturn, 1) := by decide +kernel
theorem dX2_init_0 : decode cX2_init 0 = .ok (.aload_n 0, 1) := by decide +kernel
theorem dX2_init_1 : decode cX2_init 1 = .ok (.invokespecial 3, 3) := by decide +kernel
theorem dX2_init_4 : decode cX2_init 4 = .ok (.aload_n 0, 1) := by decide +kernel
theorem dX2_init_5 : decode cX2_init 5 = .ok (.sipush 512, 3) := by decide +kernel
theorem dX2_init_8 : decode cX2_init 8 = .ok (.newarray .int, 2) := by decide +kernel
theorem dX2_init_10 : decode cX2_init 10 = .ok (.putfield 9, 3) := by decide +kernel
theorem dX2_init_13 : decode cX2_init 13 = .ok (.aload_n 0, 1) := by decide +kernel
theorem dX2_init_14 : decode cX2_init 14 = .ok (.sipush 512, 3) := by decide +kernel
theorem dX2_init_17 : decode cX2_init 17 = .ok (.newarray .int, 2) := by decide +kernel
theorem dX2_init_19 : decode cX2_init 19 = .ok (.putfield 15, 3) := by decide +kernel
theorem dX2_init_22 : decode cX2_init 22 = .ok (.aload_n 0, 1) := by decide +kernel
theorem dX2_init_23 : decode cX2_init 23 = .ok (.sipush 512, 3) := by decide +kernel
theorem dX2_init_26 : decode cX2_init 26 = .ok (.newarray .int, 2) := by decide +kernel
theorem dX2_init_28 : decode cX2_init 28 = .ok (.putfield 18, 3) := by decide +kernel
theorem dX2_init_31 : decode cX2_init 31 = .ok (.aload_n 0, 1) := by decide +kernel
theorem dX2_init_32 : decode cX2_init 32 = .ok (.iconst 0, 1) := by decide +kernel
theorem dX2_init_33 : decode cX2_init 33 = .ok (.putfield 21, 3) := by decide +kernel
theorem dX2_init_36 : decode cX2_init 36 = .ok (.return_, 1) := by decide +kernel
theorem dX2_write_0 : decode cX2_write 0 = .ok (.aload_n 0, 1) := by decide +kernel
theorem dX2_write_1 : decode cX2_write 1 = .ok (.iload_n 1, 1) := by decide +kernel
theorem dX2_write_2 : decode cX2_write 2 = .ok (.iload_n 2, 1) := by decide +kernel
theorem dX2_write_3 : decode cX2_write 3 = .ok (.invokevirtual 25, 3) := by decide +kernel
theorem dX2_write_6 : decode cX2_write 6 = .ok (.istore 4, 2) := by decide +kernel
theorem dX2_write_8 : decode cX2_write 8 = .ok (.iload 4, 2) := by decide +kernel
theorem dX2_write_10 : decode cX2_write 10 = .ok (.iconst (-1), 1) := by decide +kernel
theorem dX2_write_11 : decode cX2_write 11 = .ok (.if_icmp .ne 45, 3) := by decide +kernel
theorem dX2_write_14 : decode cX2_write 14 = .ok (.aload_n 0, 1) := by decide +kernel
theorem dX2_write_15 : decode cX2_write 15 = .ok (.getfield 21, 3) := by decide +kernel
theorem dX2_write_18 : decode cX2_write 18 = .ok (.sipush 512, 3) := by decide +kernel
theorem dX2_write_21 : decode cX2_write 21 = .ok (.if_icmp .ge 35, 3) := by decide +kernel
theorem dX2_write_24 : decode cX2_write 24 = .ok (.aload_n 0, 1) := by decide +kernel
theorem dX2_write_25 : decode cX2_write 25 = .ok (.getfield 21, 3) := by decide +kernel
theorem dX2_write_28 : decode cX2_write 28 = .ok (.istore 4, 2) := by decide +kernel
theorem dX2_write_30 : decode cX2_write 30 = .ok (.aload_n 0, 1) := by decide +kernel
theorem dX2_write_31 : decode cX2_write 31 = .ok (.getfield 9, 3) := by decide +kernel
theorem dX2_write_34 : decode cX2_write 34 = .ok (.iload 4, 2) := by decide +kernel
theorem dX2_write_36 : decode cX2_write 36 = .ok (.iload_n 1, 1) := by decide +kernel
theorem dX2_write_37 : decode cX2_write 37 = .ok (.iastore, 1) := by decide +kernel
theorem dX2_write_38 : decode cX2_write 38 = .ok (.aload_n 0, 1) := by decide +kernel
theorem dX2_write_39 : decode cX2_write 39 = .ok (.getfield 15, 3) := by decide +kernel
theorem dX2_write_42 : decode cX2_write 42 = .ok (.iload 4, 2) := by decide +kernel
theorem dX2_write_44 : decode cX2_write 44 = .ok (.iload_n 2, 1) := by decide +kernel
theorem dX2_write_45 : decode cX2_write 45 = .ok (.iastore, 1) := by decide +kernel
theorem dX2_write_46 : decode cX2_write 46 = .ok (.aload_n 0, 1) := by decide +kernel
theorem dX2_write_47 : decode cX2_write 47 = .ok (.dup, 1) := by decide +kernel
theorem dX2_write_48 : decode cX2_write 48 = .ok (.getfield 21, 3) := by decide +kernel
theorem dX2_write_51 : decode cX2_write 51 = .ok (.iconst 1, 1) := by decide +kernel
theorem dX2_write_52 : decode cX2_write 52 = .ok (.iadd, 1) := by decide +kernel
theorem dX2_write_53 : decode cX2_write 53 = .ok (.putfield 21, 3) := by decide +kernel
theorem dX2_write_56 : decode cX2_write 56 = .ok (.iload 4, 2) := by decide +kernel
theorem dX2_write_58 : decode cX2_write 58 = .ok (.ifCond .lt 22, 3) := by decide +kernel
theorem dX2_write_61 : decode cX2_write 61 = .ok (.iload 4, 2) := by decide +kernel
theorem dX2_write_63 : decode cX2_write 63 = .ok (.sipush 512, 3) := by decide +kernel
theorem dX2_write_66 : decode cX2_write 66 = .ok (.if_icmp .ge 14, 3) := by decide +kernel
theorem dX2_write_69 : decode cX2_write 69 = .ok (.aload_n 0, 1) := by decide +kernel
theorem dX2_write_70 : decode cX2_write 70 = .ok (.getfield 18, 3) := by decide +kernel
theorem dX2_write_73 : decode cX2_write 73 = .ok (.iload 4, 2) := by decide +kernel
theorem dX2_write_75 : decode cX2_write 75 = .ok (.dup2, 1) := by decide +kernel
theorem dX2_write_76 : decode cX2_write 76 = .ok (.iaload, 1) := by decide +kernel
theorem dX2_write_77 : decode cX2_write 77 = .ok (.iload_n 3, 1) := by decide +kernel
theorem dX2_write_78 : decode cX2_write 78 = .ok (.iadd, 1) := by decide +kernel
theorem dX2_write_79 : decode cX2_write 79 = .ok (.iastore, 1) := by decide +kernel
theorem dX2_write_80 : decode cX2_write 80 = .ok (.return_, 1) := by decide +kernel
theorem dX2_peopleOf_0 : decode cX2_peopleOf 0 = .ok (.aload_n 0, 1) := by decide +kernel
theorem dX2_peopleOf_1 : decode cX2_peopleOf 1 = .ok (.iload_n 1, 1) := by decide +kernel
theorem dX2_peopleOf_2 : decode cX2_peopleOf 2 = .ok (.iload_n 2, 1) := by decide +kernel
theorem dX2_peopleOf_3 : decode cX2_peopleOf 3 = .ok (.invokevirtual 25, 3) := by decide +kernel
theorem dX2_peopleOf_6 : decode cX2_peopleOf 6 = .ok (.istore_n 3, 1) := by decide +kernel
theorem dX2_peopleOf_7 : decode cX2_peopleOf 7 = .ok (.iload_n 3, 1) := by decide +kernel
theorem dX2_peopleOf_8 : decode cX2_peopleOf 8 = .ok (.ifCond .lt 10, 3) := by decide +kernel
theorem dX2_peopleOf_11 : decode cX2_peopleOf 11 = .ok (.iload_n 3, 1) := by decide +kernel
theorem dX2_peopleOf_12 : decode cX2_peopleOf 12 = .ok (.sipush 512, 3) := by decide +kernel
theorem dX2_peopleOf_15 : decode cX2_peopleOf 15 = .ok (.if_icmp .lt 7, 3) := by decide +kernel
theorem dX2_peopleOf_18 : decode cX2_peopleOf 18 = .ok (.iconst 0, 1) := by decide +kernel
theorem dX2_peopleOf_19 : decode cX2_peopleOf 19 = .ok (.goto 9, 3) := by decide +kernel
theorem dX2_peopleOf_22 : decode cX2_peopleOf 22 = .ok (.aload_n 0, 1) := by decide +kernel
theorem dX2_peopleOf_23 : decode cX2_peopleOf 23 = .ok (.getfield 18, 3) := by decide +kernel
theorem dX2_peopleOf_26 : decode cX2_peopleOf 26 = .ok (.iload_n 3, 1) := by decide +kernel
theorem dX2_peopleOf_27 : decode cX2_peopleOf 27 = .ok (.iaload, 1) := by decide +kernel
theorem dX2_peopleOf_28 : decode cX2_peopleOf 28 = .ok (.ireturn, 1) := by decide +kernel
theorem dX2_find_0 : decode cX2_find 0 = .ok (.iconst 0, 1) := by decide +kernel
theorem dX2_find_1 : decode cX2_find 1 = .ok (.istore_n 3, 1) := by decide +kernel
theorem dX2_find_2 : decode cX2_find 2 = .ok (.iload_n 3, 1) := by decide +kernel
theorem dX2_find_3 : decode cX2_find 3 = .ok (.aload_n 0, 1) := by decide +kernel
theorem dX2_find_4 : decode cX2_find 4 = .ok (.getfield 21, 3) := by decide +kernel
theorem dX2_find_7 : decode cX2_find 7 = .ok (.if_icmp .ge 31, 3) := by decide +kernel
theorem dX2_find_10 : decode cX2_find 10 = .ok (.aload_n 0, 1) := by decide +kernel
theorem dX2_find_11 : decode cX2_find 11 = .ok (.getfield 9, 3) := by decide +kernel
theorem dX2_find_14 : decode cX2_find 14 = .ok (.iload_n 3, 1) := by decide +kernel
theorem dX2_find_15 : decode cX2_find 15 = .ok (.iaload, 1) := by decide +kernel
theorem dX2_find_16 : decode cX2_find 16 = .ok (.iload_n 1, 1) := by decide +kernel
theorem dX2_find_17 : decode cX2_find 17 = .ok (.if_icmp .ne 15, 3) := by decide +kernel
theorem dX2_find_20 : decode cX2_find 20 = .ok (.aload_n 0, 1) := by decide +kernel
theorem dX2_find_21 : decode cX2_find 21 = .ok (.getfield 15, 3) := by decide +kernel
theorem dX2_find_24 : decode cX2_find 24 = .ok (.iload_n 3, 1) := by decide +kernel
theorem dX2_find_25 : decode cX2_find 25 = .ok (.iaload, 1) := by decide +kernel
theorem dX2_find_26 : decode cX2_find 26 = .ok (.iload_n 2, 1) := by decide +kernel
theorem dX2_find_27 : decode cX2_find 27 = .ok (.if_icmp .ne 5, 3) := by decide +kernel
theorem dX2_find_30 : decode cX2_find 30 = .ok (.iload_n 3, 1) := by decide +kernel
theorem dX2_find_31 : decode cX2_find 31 = .ok (.ireturn, 1) := by decide +kernel
theorem dX2_find_32 : decode cX2_find 32 = .ok (.iinc 3 1, 3) := by decide +kernel
theorem dX2_find_35 : decode cX2_find 35 = .ok (.goto (-33), 3) := by decide +kernel
theorem dX2_find_38 : decode cX2_find 38 = .ok (.iconst (-1), 1) := by decide +kernel
theorem dX2_find_39 : decode cX2_find 39 = .ok (.ireturn, 1) := by decide +kernel
theorem dX3_init_0 : decode cX3_init 0 = .ok (.aload_n 0, 1) := by decide +kernel
theorem dX3_init_1 : decode cX3_init 1 = .ok (.invokespecial 3, 3) := by decide +kernel
theorem dX3_init_4 : decode cX3_init 4 = .ok (.aload_n 0, 1) := by decide +kernel
theorem dX3_init_5 : decode cX3_init 5 = .ok (.bipush 6, 2) := by decide +kernel
theorem dX3_init_7 : decode cX3_init 7 = .ok (.anewarray 9, 3) := by decide +kernel
theorem dX3_init_10 : decode cX3_init 10 = .ok (.putfield 11, 3) := by decide +kernel
theorem dX3_init_13 : decode cX3_init 13 = .ok (.aload_n 0, 1) := by decide +kernel
theorem dX3_init_14 : decode cX3_init 14 = .ok (.iconst 0, 1) := by decide +kernel
theorem dX3_init_15 : decode cX3_init 15 = .ok (.putfield 15, 3) := by decide +kernel
theorem dX3_init_18 : decode cX3_init 18 = .ok (.aload_n 0, 1) := by decide +kernel
theorem dX3_init_19 : decode cX3_init 19 = .ok (.bipush 40, 2) := by decide +kernel
theorem dX3_init_21 : decode cX3_init 21 = .ok (.anewarray 19, 3) := by decide +kernel
theorem dX3_init_24 : decode cX3_init 24 = .ok (.putfield 21, 3) := by decide +kernel
theorem dX3_init_27 : decode cX3_init 27 = .ok (.aload_n 0, 1) := by decide +kernel
theorem dX3_init_28 : decode cX3_init 28 = .ok (.bipush 40, 2) := by decide +kernel
theorem dX3_init_30 : decode cX3_init 30 = .ok (.anewarray 19, 3) := by decide +kernel
theorem dX3_init_33 : decode cX3_init 33 = .ok (.putfield 25, 3) := by decide +kernel
theorem dX3_init_36 : decode cX3_init 36 = .ok (.aload_n 0, 1) := by decide +kernel
theorem dX3_init_37 : decode cX3_init 37 = .ok (.iconst 0, 1) := by decide +kernel
theorem dX3_init_38 : decode cX3_init 38 = .ok (.putfield 28, 3) := by decide +kernel
theorem dX3_init_41 : decode cX3_init 41 = .ok (.aload_n 0, 1) := by decide +kernel
theorem dX3_init_42 : decode cX3_init 42 = .ok (.new 31, 3) := by decide +kernel
theorem dX3_init_45 : decode cX3_init 45 = .ok (.dup, 1) := by decide +kernel
theorem dX3_init_46 : decode cX3_init 46 = .ok (.invokespecial 33, 3) := by decide +kernel
theorem dX3_init_49 : decode cX3_init 49 = .ok (.putfield 34, 3) := by decide +kernel
theorem dX3_init_52 : decode cX3_init 52 = .ok (.aload_n 0, 1) := by decide +kernel
theorem dX3_init_53 : decode cX3_init 53 = .ok (.iconst 2, 1) := by decide +kernel
theorem dX3_init_54 : decode cX3_init 54 = .ok (.putfield 38, 3) := by decide +kernel
theorem dX3_init_57 : decode cX3_init 57 = .ok (.aload_n 0, 1) := by decide +kernel
theorem dX3_init_58 : decode cX3_init 58 = .ok (.iconst 0, 1) := by decide +kernel
theorem dX3_init_59 : decode cX3_init 59 = .ok (.putfield 41, 3) := by decide +kernel
theorem dX3_init_62 : decode cX3_init 62 = .ok (.iconst 0, 1) := by decide +kernel
theorem dX3_init_63 : decode cX3_init 63 = .ok (.istore_n 1, 1) := by decide +kernel
theorem dX3_init_64 : decode cX3_init 64 = .ok (.iload_n 1, 1) := by decide +kernel
theorem dX3_init_65 : decode cX3_init 65 = .ok (.bipush 6, 2) := by decide +kernel
theorem dX3_init_67 : decode cX3_init 67 = .ok (.if_icmp .ge 22, 3) := by decide +kernel
theorem dX3_init_70 : decode cX3_init 70 = .ok (.aload_n 0, 1) := by decide +kernel
theorem dX3_init_71 : decode cX3_init 71 = .ok (.getfield 11, 3) := by decide +kernel
theorem dX3_init_74 : decode cX3_init 74 = .ok (.iload_n 1, 1) := by decide +kernel
theorem dX3_init_75 : decode cX3_init 75 = .ok (.new 9, 3) := by decide +kernel
theorem dX3_init_78 : decode cX3_init 78 = .ok (.dup, 1) := by decide +kernel
theorem dX3_init_79 : decode cX3_init 79 = .ok (.invokespecial 44, 3) := by decide +kernel
theorem dX3_init_82 : decode cX3_init 82 = .ok (.aastore, 1) := by decide +kernel
theorem dX3_init_83 : decode cX3_init 83 = .ok (.iinc 1 1, 3) := by decide +kernel
theorem dX3_init_86 : decode cX3_init 86 = .ok (.goto (-22), 3) := by decide +kernel
theorem dX3_init_89 : decode cX3_init 89 = .ok (.iconst 0, 1) := by decide +kernel
theorem dX3_init_90 : decode cX3_init 90 = .ok (.istore_n 1, 1) := by decide +kernel
theorem dX3_init_91 : decode cX3_init 91 = .ok (.iload_n 1, 1) := by decide +kernel
theorem dX3_init_92 : decode cX3_init 92 = .ok (.bipush 40, 2) := by decide +kernel
theorem dX3_init_94 : decode cX3_init 94 = .ok (.if_icmp .ge 32, 3) := by decide +kernel
theorem dX3_init_97 : decode cX3_init 97 = .ok (.new 19, 3) := by decide +kernel
theorem dX3_init_100 : decode cX3_init 100 = .ok (.dup, 1) := by decide +kernel
theorem dX3_init_101 : decode cX3_init 101 = .ok (.iload_n 1, 1) := by decide +kernel
theorem dX3_init_102 : decode cX3_init 102 = .ok (.invokespecial 45, 3) := by decide +kernel
theorem dX3_init_105 : decode cX3_init 105 = .ok (.astore_n 2, 1) := by decide +kernel
theorem dX3_init_106 : decode cX3_init 106 = .ok (.aload_n 0, 1) := by decide +kernel
theorem dX3_init_107 : decode cX3_init 107 = .ok (.getfield 21, 3) := by decide +kernel
theorem dX3_init_110 : decode cX3_init 110 = .ok (.iload_n 1, 1) := by decide +kernel
theorem dX3_init_111 : decode cX3_init 111 = .ok (.aload_n 2, 1) := by decide +kernel
theorem dX3_init_112 : decode cX3_init 112 = .ok (.aastore, 1) := by decide +kernel
theorem dX3_init_113 : decode cX3_init 113 = .ok (.aload_n 0, 1) := by decide +kernel
theorem dX3_init_114 : decode cX3_init 114 = .ok (.getfield 25, 3) := by decide +kernel
theorem dX3_init_117 : decode cX3_init 117 = .ok (.iload_n 1, 1) := by decide +kernel
theorem dX3_init_118 : decode cX3_init 118 = .ok (.aload_n 2, 1) := by decide +kernel
theorem dX3_init_119 : decode cX3_init 119 = .ok (.aastore, 1) := by decide +kernel
theorem dX3_init_120 : decode cX3_init 120 = .ok (.iinc 1 1, 3) := by decide +kernel
theorem dX3_init_123 : decode cX3_init 123 = .ok (.goto (-32), 3) := by decide +kernel
theorem dX3_init_126 : decode cX3_init 126 = .ok (.return_, 1) := by decide +kernel
theorem dX3_addBoard_0 : decode cX3_addBoard 0 = .ok (.iload_n 1, 1) := by decide +kernel
theorem dX3_addBoard_1 : decode cX3_addBoard 1 = .ok (.invokestatic 48, 3) := by decide +kernel
theorem dX3_addBoard_4 : decode cX3_addBoard 4 = .ok (.iload_n 2, 1) := by decide +kernel
theorem dX3_addBoard_5 : decode cX3_addBoard 5 = .ok (.ifCond .lt 10, 3) := by decide +kernel
theorem dX3_addBoard_8 : decode cX3_addBoard 8 = .ok (.iload_n 2, 1) := by decide +kernel
theorem dX3_addBoard_9 : decode cX3_addBoard 9 = .ok (.sipush 200, 3) := by decide +kernel
theorem dX3_addBoard_12 : decode cX3_addBoard 12 = .ok (.if_icmp .le 13, 3) := by decide +kernel
theorem dX3_addBoard_15 : decode cX3_addBoard 15 = .ok (.new 51, 3) := by decide +kernel
theorem dX3_addBoard_18 : decode cX3_addBoard 18 = .ok (.dup, 1) := by decide +kernel
theorem dX3_addBoard_19 : decode cX3_addBoard 19 = .ok (.ldc 53, 2) := by decide +kernel
theorem dX3_addBoard_21 : decode cX3_addBoard 21 = .ok (.invokespecial 55, 3) := by decide +kernel
theorem dX3_addBoard_24 : decode cX3_addBoard 24 = .ok (.athrow, 1) := by decide +kernel
theorem dX3_addBoard_25 : decode cX3_addBoard 25 = .ok (.aload_n 0, 1) := by decide +kernel
theorem dX3_addBoard_26 : decode cX3_addBoard 26 = .ok (.getfield 15, 3) := by decide +kernel
theorem dX3_addBoard_29 : decode cX3_addBoard 29 = .ok (.bipush 6, 2) := by decide +kernel
theorem dX3_addBoard_31 : decode cX3_addBoard 31 = .ok (.if_icmp .lt 13, 3) := by decide +kernel
theorem dX3_addBoard_34 : decode cX3_addBoard 34 = .ok (.new 58, 3) := by decide +kernel
theorem dX3_addBoard_37 : decode cX3_addBoard 37 = .ok (.dup, 1) := by decide +kernel
theorem dX3_addBoard_38 : decode cX3_addBoard 38 = .ok (.ldc 60, 2) := by decide +kernel
theorem dX3_addBoard_40 : decode cX3_addBoard 40 = .ok (.invokespecial 62, 3) := by decide +kernel
theorem dX3_addBoard_43 : decode cX3_addBoard 43 = .ok (.athrow, 1) := by decide +kernel
theorem dX3_addBoard_44 : decode cX3_addBoard 44 = .ok (.aload_n 0, 1) := by decide +kernel
theorem dX3_addBoard_45 : decode cX3_addBoard 45 = .ok (.getfield 11, 3) := by decide +kernel
theorem dX3_addBoard_48 : decode cX3_addBoard 48 = .ok (.aload_n 0, 1) := by decide +kernel
theorem dX3_addBoard_49 : decode cX3_addBoard 49 = .ok (.getfield 15, 3) := by decide +kernel
theorem dX3_addBoard_52 : decode cX3_addBoard 52 = .ok (.aaload, 1) := by decide +kernel
theorem dX3_addBoard_53 : decode cX3_addBoard 53 = .ok (.iload_n 1, 1) := by decide +kernel
theorem dX3_addBoard_54 : decode cX3_addBoard 54 = .ok (.iload_n 2, 1) := by decide +kernel
theorem dX3_addBoard_55 : decode cX3_addBoard 55 = .ok (.invokevirtual 63, 3) := by decide +kernel
theorem dX3_addBoard_58 : decode cX3_addBoard 58 = .ok (.aload_n 0, 1) := by decide +kernel
theorem dX3_addBoard_59 : decode cX3_addBoard 59 = .ok (.dup, 1) := by decide +kernel
theorem dX3_addBoard_60 : decode cX3_addBoard 60 = .ok (.getfield 15, 3) := by decide +kernel
theorem dX3_addBoard_63 : decode cX3_addBoard 63 = .ok (.iconst 1, 1) := by decide +kernel
theorem dX3_addBoard_64 : decode cX3_addBoard 64 = .ok (.iadd, 1) := by decide +kernel
theorem dX3_addBoard_65 : decode cX3_addBoard 65 = .ok (.putfield 15, 3) := by decide +kernel
theorem dX3_addBoard_68 : decode cX3_addBoard 68 = .ok (.aload_n 0, 1) := by decide +kernel
theorem dX3_addBoard_69 : decode cX3_addBoard 69 = .ok (.getfield 15, 3) := by decide +kernel
theorem dX3_addBoard_72 : decode cX3_addBoard 72 = .ok (.iconst 1, 1) := by decide +kernel
theorem dX3_addBoard_73 : decode cX3_addBoard 73 = .ok (.isub, 1) := by decide +kernel
theorem dX3_addBoard_74 : decode cX3_addBoard 74 = .ok (.ireturn, 1) := by decide +kernel
theorem dX3_setSun_0 : decode cX3_setSun 0 = .ok (.iload_n 1, 1) := by decide +kernel
theorem dX3_setSun_1 : decode cX3_setSun 1 = .ok (.ifCond .lt 9, 3) := by decide +kernel
theorem dX3_setSun_4 : decode cX3_setSun 4 = .ok (.iload_n 1, 1) := by decide +kernel
theorem dX3_setSun_5 : decode cX3_setSun 5 = .ok (.bipush 20, 2) := by decide +kernel
theorem dX3_setSun_7 : decode cX3_setSun 7 = .ok (.if_icmp .le 13, 3) := by decide +kernel
theorem dX3_setSun_10 : decode cX3_setSun 10 = .ok (.new 51, 3) := by decide +kernel
theorem dX3_setSun_13 : decode cX3_setSun 13 = .ok (.dup, 1) := by decide +kernel
theorem dX3_setSun_14 : decode cX3_setSun 14 = .ok (.ldc 67, 2) := by decide +kernel
theorem dX3_setSun_16 : decode cX3_setSun 16 = .ok (.invokespecial 55, 3) := by decide +kernel
theorem dX3_setSun_19 : decode cX3_setSun 19 = .ok (.athrow, 1) := by decide +kernel
theorem dX3_setSun_20 : decode cX3_setSun 20 = .ok (.aload_n 0, 1) := by decide +kernel
theorem dX3_setSun_21 : decode cX3_setSun 21 = .ok (.getfield 38, 3) := by decide +kernel
theorem dX3_setSun_24 : decode cX3_setSun 24 = .ok (.istore_n 2, 1) := by decide +kernel
theorem dX3_setSun_25 : decode cX3_setSun 25 = .ok (.aload_n 0, 1) := by decide +kernel
theorem dX3_setSun_26 : decode cX3_setSun 26 = .ok (.iload_n 1, 1) := by decide +kernel
theorem dX3_setSun_27 : decode cX3_setSun 27 = .ok (.putfield 38, 3) := by decide +kernel
theorem dX3_setSun_30 : decode cX3_setSun 30 = .ok (.iload_n 2, 1) := by decide +kernel
theorem dX3_setSun_31 : decode cX3_setSun 31 = .ok (.ireturn, 1) := by decide +kernel
theorem dX3_charge_0 : decode cX3_charge 0 = .ok (.aload_n 0, 1) := by decide +kernel
theorem dX3_charge_1 : decode cX3_charge 1 = .ok (.iload_n 1, 1) := by decide +kernel
theorem dX3_charge_2 : decode cX3_charge 2 = .ok (.invokevirtual 69, 3) := by decide +kernel
theorem dX3_charge_5 : decode cX3_charge 5 = .ok (.getfield 73, 3) := by decide +kernel
theorem dX3_charge_8 : decode cX3_charge 8 = .ok (.ireturn, 1) := by decide +kernel
theorem dX3_cell_0 : decode cX3_cell 0 = .ok (.aload_n 0, 1) := by decide +kernel
theorem dX3_cell_1 : decode cX3_cell 1 = .ok (.iload_n 1, 1) := by decide +kernel
theorem dX3_cell_2 : decode cX3_cell 2 = .ok (.invokevirtual 69, 3) := by decide +kernel
theorem dX3_cell_5 : decode cX3_cell 5 = .ok (.astore 4, 2) := by decide +kernel
theorem dX3_cell_7 : decode cX3_cell 7 = .ok (.aload 4, 2) := by decide +kernel
theorem dX3_cell_9 : decode cX3_cell 9 = .ok (.getfield 76, 3) := by decide +kernel
theorem dX3_cell_12 : decode cX3_cell 12 = .ok (.iload_n 2, 1) := by decide +kernel
theorem dX3_cell_13 : decode cX3_cell 13 = .ok (.iload_n 3, 1) := by decide +kernel
theorem dX3_cell_14 : decode cX3_cell 14 = .ok (.invokestatic 79, 3) := by decide +kernel
theorem dX3_cell_17 : decode cX3_cell 17 = .ok (.invokestatic 83, 3) := by decide +kernel
theorem dX3_cell_20 : decode cX3_cell 20 = .ok (.ireturn, 1) := by decide +kernel
theorem dX3_wear_0 : decode cX3_wear 0 = .ok (.aload_n 0, 1) := by decide +kernel
theorem dX3_wear_1 : decode cX3_wear 1 = .ok (.iload_n 1, 1) := by decide +kernel
theorem dX3_wear_2 : decode cX3_wear 2 = .ok (.invokevirtual 69, 3) := by decide +kernel
theorem dX3_wear_5 : decode cX3_wear 5 = .ok (.astore 4, 2) := by decide +kernel
theorem dX3_wear_7 : decode cX3_wear 7 = .ok (.aload 4, 2) := by decide +kernel
theorem dX3_wear_9 : decode cX3_wear 9 = .ok (.iload_n 2, 1) := by decide +kernel
theorem dX3_wear_10 : decode cX3_wear 10 = .ok (.iload_n 3, 1) := by decide +kernel
theorem dX3_wear_11 : decode cX3_wear 11 = .ok (.invokestatic 79, 3) := by decide +kernel
theorem dX3_wear_14 : decode cX3_wear 14 = .ok (.invokevirtual 86, 3) := by decide +kernel
theorem dX3_wear_17 : decode cX3_wear 17 = .ok (.ireturn, 1) := by decide +kernel
theorem dX3_shows_0 : decode cX3_shows 0 = .ok (.aload_n 0, 1) := by decide +kernel
theorem dX3_shows_1 : decode cX3_shows 1 = .ok (.iload_n 1, 1) := by decide +kernel
theorem dX3_shows_2 : decode cX3_shows 2 = .ok (.invokevirtual 69, 3) := by decide +kernel
theorem dX3_shows_5 : decode cX3_shows 5 = .ok (.getfield 90, 3) := by decide +kernel
theorem dX3_shows_8 : decode cX3_shows 8 = .ok (.astore_n 2, 1) := by decide +kernel
theorem dX3_shows_9 : decode cX3_shows 9 = .ok (.aload_n 2, 1) := by decide +kernel
theorem dX3_shows_10 : decode cX3_shows 10 = .ok (.ifnonnull 7, 3) := by decide +kernel
theorem dX3_shows_13 : decode cX3_shows 13 = .ok (.iconst (-1), 1) := by decide +kernel
theorem dX3_shows_14 : decode cX3_shows 14 = .ok (.goto 7, 3) := by decide +kernel
theorem dX3_shows_17 : decode cX3_shows 17 = .ok (.aload_n 2, 1) := by decide +kernel
theorem dX3_shows_18 : decode cX3_shows 18 = .ok (.getfield 94, 3) := by decide +kernel
theorem dX3_shows_21 : decode cX3_shows 21 = .ok (.ireturn, 1) := by decide +kernel
theorem dX3_shift_0 : decode cX3_shift 0 = .ok (.aload_n 0, 1) := by decide +kernel
theorem dX3_shift_1 : decode cX3_shift 1 = .ok (.iload_n 1, 1) := by decide +kernel
theorem dX3_shift_2 : decode cX3_shift 2 = .ok (.invokevirtual 69, 3) := by decide +kernel
theorem dX3_shift_5 : decode cX3_shift 5 = .ok (.getfield 97, 3) := by decide +kernel
theorem dX3_shift_8 : decode cX3_shift 8 = .ok (.ireturn, 1) := by decide +kernel
theorem dX3_sleeps_0 : decode cX3_sleeps 0 = .ok (.aload_n 0, 1) := by decide +kernel
theorem dX3_sleeps_1 : decode cX3_sleeps 1 = .ok (.iload_n 1, 1) := by decide +kernel
theorem dX3_sleeps_2 : decode cX3_sleeps 2 = .ok (.invokevirtual 69, 3) := by decide +kernel
theorem dX3_sleeps_5 : decode cX3_sleeps 5 = .ok (.getfield 100, 3) := by decide +kernel
theorem dX3_sleeps_8 : decode cX3_sleeps 8 = .ok (.ireturn, 1) := by decide +kernel
theorem dX3_post_0 : decode cX3_post 0 = .ok (.iload_n 1, 1) := by decide +kernel
theorem dX3_post_1 : decode cX3_post 1 = .ok (.ifCond .lt 9, 3) := by decide +kernel
theorem dX3_post_4 : decode cX3_post 4 = .ok (.iload_n 1, 1) := by decide +kernel
theorem dX3_post_5 : decode cX3_post 5 = .ok (.bipush 9, 2) := by decide +kernel
theorem dX3_post_7 : decode cX3_post 7 = .ok (.if_icmp .le 13, 3) := by decide +kernel
theorem dX3_post_10 : decode cX3_post 10 = .ok (.new 51, 3) := by decide +kernel
theorem dX3_post_13 : decode cX3_post 13 = .ok (.dup, 1) := by decide +kernel
theorem dX3_post_14 : decode cX3_post 14 = .ok (.ldc 104, 2) := by decide +kernel
theorem dX3_post_16 : decode cX3_post 16 = .ok (.invokespecial 55, 3) := by decide +kernel
theorem dX3_post_19 : decode cX3_post 19 = .ok (.athrow, 1) := by decide +kernel
theorem dX3_post_20 : decode cX3_post 20 = .ok (.iload_n 2, 1) := by decide +kernel
theorem dX3_post_21 : decode cX3_post 21 = .ok (.ifCond .ne 13, 3) := by decide +kernel
theorem dX3_post_24 : decode cX3_post 24 = .ok (.new 51, 3) := by decide +kernel
theorem dX3_post_27 : decode cX3_post 27 = .ok (.dup, 1) := by decide +kernel
theorem dX3_post_28 : decode cX3_post 28 = .ok (.ldc 106, 2) := by decide +kernel
theorem dX3_post_30 : decode cX3_post 30 = .ok (.invokespecial 55, 3) := by decide +kernel
theorem dX3_post_33 : decode cX3_post 33 = .ok (.athrow, 1) := by decide +kernel
theorem dX3_post_34 : decode cX3_post 34 = .ok (.iload_n 3, 1) := by decide +kernel
theorem dX3_post_35 : decode cX3_post 35 = .ok (.ifCond .lt 17, 3) := by decide +kernel
theorem dX3_post_38 : decode cX3_post 38 = .ok (.iload_n 3, 1) := by decide +kernel
theorem dX3_post_39 : decode cX3_post 39 = .ok (.iload 4, 2) := by decide +kernel
theorem dX3_post_41 : decode cX3_post 41 = .ok (.if_icmp .ge 11, 3) := by decide +kernel
theorem dX3_post_44 : decode cX3_post 44 = .ok (.iload 4, 2) := by decide +kernel
theorem dX3_post_46 : decode cX3_post 46 = .ok (.sipush 2000, 3) := by decide +kernel
theorem dX3_post_49 : decode cX3_post 49 = .ok (.if_icmp .le 13, 3) := by decide +kernel
theorem dX3_post_52 : decode cX3_post 52 = .ok (.new 51, 3) := by decide +kernel
theorem dX3_post_55 : decode cX3_post 55 = .ok (.dup, 1) := by decide +kernel
theorem dX3_post_56 : decode cX3_post 56 = .ok (.ldc 108, 2) := by decide +kernel
theorem dX3_post_58 : decode cX3_post 58 = .ok (.invokespecial 55, 3) := by decide +kernel
theorem dX3_post_61 : decode cX3_post 61 = .ok (.athrow, 1) := by decide +kernel
theorem dX3_post_62 : decode cX3_post 62 = .ok (.aload_n 0, 1) := by decide +kernel
theorem dX3_post_63 : decode cX3_post 63 = .ok (.iload_n 1, 1) := by decide +kernel
theorem dX3_post_64 : decode cX3_post 64 = .ok (.iload_n 2, 1) := by decide +kernel
theorem dX3_post_65 : decode cX3_post 65 = .ok (.iload_n 3, 1) := by decide +kernel
theorem dX3_post_66 : decode cX3_post 66 = .ok (.iload 4, 2) := by decide +kernel
theorem dX3_post_68 : decode cX3_post 68 = .ok (.invokevirtual 110, 3) := by decide +kernel
theorem dX3_post_71 : decode cX3_post 71 = .ok (.getfield 94, 3) := by decide +kernel
theorem dX3_post_74 : decode cX3_post 74 = .ok (.ireturn, 1) := by decide +kernel
theorem dX3_queue_0 : decode cX3_queue 0 = .ok (.aload_n 0, 1) := by decide +kernel
theorem dX3_queue_1 : decode cX3_queue 1 = .ok (.iload_n 1, 1) := by decide +kernel
theorem dX3_queue_2 : decode cX3_queue 2 = .ok (.invokevirtual 114, 3) := by decide +kernel
theorem dX3_queue_5 : decode cX3_queue 5 = .ok (.astore_n 3, 1) := by decide +kernel
theorem dX3_queue_6 : decode cX3_queue 6 = .ok (.iload_n 2, 1) := by decide +kernel
theorem dX3_queue_7 : decode cX3_queue 7 = .ok (.invokestatic 48, 3) := by decide +kernel
theorem dX3_queue_10 : decode cX3_queue 10 = .ok (.aload_n 3, 1) := by decide +kernel
theorem dX3_queue_11 : decode cX3_queue 11 = .ok (.getfield 118, 3) := by decide +kernel
theorem dX3_queue_14 : decode cX3_queue 14 = .ok (.ifCond .ne 10, 3) := by decide +kernel
theorem dX3_queue_17 : decode cX3_queue 17 = .ok (.aload_n 3, 1) := by decide +kernel
theorem dX3_queue_18 : decode cX3_queue 18 = .ok (.getfield 121, 3) := by decide +kernel
theorem dX3_queue_21 : decode cX3_queue 21 = .ok (.ifCond .eq 13, 3) := by decide +kernel
theorem dX3_queue_24 : decode cX3_queue 24 = .ok (.new 124, 3) := by decide +kernel
theorem dX3_queue_27 : decode cX3_queue 27 = .ok (.dup, 1) := by decide +kernel
theorem dX3_queue_28 : decode cX3_queue 28 = .ok (.ldc 126, 2) := by decide +kernel
theorem dX3_queue_30 : decode cX3_queue 30 = .ok (.invokespecial 128, 3) := by decide +kernel
theorem dX3_queue_33 : decode cX3_queue 33 = .ok (.athrow, 1) := by decide +kernel
theorem dX3_queue_34 : decode cX3_queue 34 = .ok (.aload_n 3, 1) := by decide +kernel
theorem dX3_queue_35 : decode cX3_queue 35 = .ok (.iload_n 2, 1) := by decide +kernel
theorem dX3_queue_36 : decode cX3_queue 36 = .ok (.aload_n 0, 1) := by decide +kernel
theorem dX3_queue_37 : decode cX3_queue 37 = .ok (.getfield 41, 3) := by decide +kernel
theorem dX3_queue_40 : decode cX3_queue 40 = .ok (.invokevirtual 129, 3) := by decide +kernel
theorem dX3_queue_43 : decode cX3_queue 43 = .ok (.istore 4, 2) := by decide +kernel
theorem dX3_queue_45 : decode cX3_queue 45 = .ok (.aload_n 3, 1) := by decide +kernel
theorem dX3_queue_46 : decode cX3_queue 46 = .ok (.iload_n 2, 1) := by decide +kernel
theorem dX3_queue_47 : decode cX3_queue 47 = .ok (.invokevirtual 133, 3) := by decide +kernel
theorem dX3_queue_50 : decode cX3_queue 50 = .ok (.iload 4, 2) := by decide +kernel
theorem dX3_queue_52 : decode cX3_queue 52 = .ok (.ifCond .ne 7, 3) := by decide +kernel
theorem dX3_queue_55 : decode cX3_queue 55 = .ok (.iconst 1, 1) := by decide +kernel
theorem dX3_queue_56 : decode cX3_queue 56 = .ok (.goto 4, 3) := by decide +kernel
theorem dX3_queue_59 : decode cX3_queue 59 = .ok (.iconst 0, 1) := by decide +kernel
theorem dX3_queue_60 : decode cX3_queue 60 = .ok (.ireturn, 1) := by decide +kernel
theorem dX3_takeBack_0 : decode cX3_takeBack 0 = .ok (.aload_n 0, 1) := by decide +kernel
theorem dX3_takeBack_1 : decode cX3_takeBack 1 = .ok (.iload_n 1, 1) := by decide +kernel
theorem dX3_takeBack_2 : decode cX3_takeBack 2 = .ok (.invokevirtual 114, 3) := by decide +kernel
theorem dX3_takeBack_5 : decode cX3_takeBack 5 = .ok (.astore_n 3, 1) := by decide +kernel
theorem dX3_takeBack_6 : decode cX3_takeBack 6 = .ok (.iload_n 2, 1) := by decide +kernel
theorem dX3_takeBack_7 : decode cX3_takeBack 7 = .ok (.aload_n 0, 1) := by decide +kernel
theorem dX3_takeBack_8 : decode cX3_takeBack 8 = .ok (.getfield 41, 3) := by decide +kernel
theorem dX3_takeBack_11 : decode cX3_takeBack 11 = .ok (.if_icmp .le 11, 3) := by decide +kernel
theorem dX3_takeBack_14 : decode cX3_takeBack 14 = .ok (.iload_n 2, 1) := by decide +kernel
theorem dX3_takeBack_15 : decode cX3_takeBack 15 = .ok (.aload_n 3, 1) := by decide +kernel
theorem dX3_takeBack_16 : decode cX3_takeBack 16 = .ok (.getfield 136, 3) := by decide +kernel
theorem dX3_takeBack_19 : decode cX3_takeBack 19 = .ok (.if_icmp .le 13, 3) := by decide +kernel
theorem dX3_takeBack_22 : decode cX3_takeBack 22 = .ok (.new 51, 3) := by decide +kernel
theorem dX3_takeBack_25 : decode cX3_takeBack 25 = .ok (.dup, 1) := by decide +kernel
theorem dX3_takeBack_26 : decode cX3_takeBack 26 = .ok (.ldc 139, 2) := by decide +kernel
theorem dX3_takeBack_28 : decode cX3_takeBack 28 = .ok (.invokespecial 55, 3) := by decide +kernel
theorem dX3_takeBack_31 : decode cX3_takeBack 31 = .ok (.athrow, 1) := by decide +kernel
theorem dX3_takeBack_32 : decode cX3_takeBack 32 = .ok (.aload_n 3, 1) := by decide +kernel
theorem dX3_takeBack_33 : decode cX3_takeBack 33 = .ok (.getfield 118, 3) := by decide +kernel
theorem dX3_takeBack_36 : decode cX3_takeBack 36 = .ok (.ifCond .eq 13, 3) := by decide +kernel
theorem dX3_takeBack_39 : decode cX3_takeBack 39 = .ok (.new 124, 3) := by decide +kernel
theorem dX3_takeBack_42 : decode cX3_takeBack 42 = .ok (.dup, 1) := by decide +kernel
theorem dX3_takeBack_43 : decode cX3_takeBack 43 = .ok (.ldc 141, 2) := by decide +kernel
theorem dX3_takeBack_45 : decode cX3_takeBack 45 = .ok (.invokespecial 128, 3) := by decide +kernel
theorem dX3_takeBack_48 : decode cX3_takeBack 48 = .ok (.athrow, 1) := by decide +kernel
theorem dX3_takeBack_49 : decode cX3_takeBack 49 = .ok (.aload_n 3, 1) := by decide +kernel
theorem dX3_takeBack_50 : decode cX3_takeBack 50 = .ok (.iconst 1, 1) := by decide +kernel
theorem dX3_takeBack_51 : decode cX3_takeBack 51 = .ok (.putfield 121, 3) := by decide +kernel
theorem dX3_takeBack_54 : decode cX3_takeBack 54 = .ok (.aload_n 3, 1) := by decide +kernel
theorem dX3_takeBack_55 : decode cX3_takeBack 55 = .ok (.iload_n 2, 1) := by decide +kernel
theorem dX3_takeBack_56 : decode cX3_takeBack 56 = .ok (.putfield 136, 3) := by decide +kernel
theorem dX3_takeBack_59 : decode cX3_takeBack 59 = .ok (.aload_n 0, 1) := by decide +kernel
theorem dX3_takeBack_60 : decode cX3_takeBack 60 = .ok (.aload_n 3, 1) := by decide +kernel
theorem dX3_takeBack_61 : decode cX3_takeBack 61 = .ok (.invokevirtual 143, 3) := by decide +kernel
theorem dX3_takeBack_64 : decode cX3_takeBack 64 = .ok (.ireturn, 1) := by decide +kernel
theorem dX3_mend_0 : decode cX3_mend 0 = .ok (.aload_n 0, 1) := by decide +kernel
theorem dX3_mend_1 : decode cX3_mend 1 = .ok (.iload_n 1, 1) := by decide +kernel
theorem dX3_mend_2 : decode cX3_mend 2 = .ok (.invokevirtual 114, 3) := by decide +kernel
theorem dX3_mend_5 : decode cX3_mend 5 = .ok (.astore_n 3, 1) := by decide +kernel
theorem dX3_mend_6 : decode cX3_mend 6 = .ok (.iload_n 2, 1) := by decide +kernel
theorem dX3_mend_7 : decode cX3_mend 7 = .ok (.ifCond .eq 11, 3) := by decide +kernel
theorem dX3_mend_10 : decode cX3_mend 10 = .ok (.iload_n 2, 1) := by decide +kernel
theorem dX3_mend_11 : decode cX3_mend 11 = .ok (.aload_n 3, 1) := by decide +kernel
theorem dX3_mend_12 : decode cX3_mend 12 = .ok (.getfield 147, 3) := by decide +kernel
theorem dX3_mend_15 : decode cX3_mend 15 = .ok (.if_icmp .ne 13, 3) := by decide +kernel
theorem dX3_mend_18 : decode cX3_mend 18 = .ok (.new 51, 3) := by decide +kernel
theorem dX3_mend_21 : decode cX3_mend 21 = .ok (.dup, 1) := by decide +kernel
theorem dX3_mend_22 : decode cX3_mend 22 = .ok (.ldc 150, 2) := by decide +kernel
theorem dX3_mend_24 : decode cX3_mend 24 = .ok (.invokespecial 55, 3) := by decide +kernel
theorem dX3_mend_27 : decode cX3_mend 27 = .ok (.athrow, 1) := by decide +kernel
theorem dX3_mend_28 : decode cX3_mend 28 = .ok (.aload_n 3, 1) := by decide +kernel
theorem dX3_mend_29 : decode cX3_mend 29 = .ok (.getfield 118, 3) := by decide +kernel
theorem dX3_mend_32 : decode cX3_mend 32 = .ok (.ifCond .ne 14, 3) := by decide +kernel
theorem dX3_mend_35 : decode cX3_mend 35 = .ok (.aload_n 3, 1) := by decide +kernel
theorem dX3_mend_36 : decode cX3_mend 36 = .ok (.aload_n 0, 1) := by decide +kernel
theorem dX3_mend_37 : decode cX3_mend 37 = .ok (.getfield 41, 3) := by decide +kernel
theorem dX3_mend_40 : decode cX3_mend 40 = .ok (.invokevirtual 152, 3) := by decide +kernel
theorem dX3_mend_43 : decode cX3_mend 43 = .ok (.ifCond .eq 13, 3) := by decide +kernel
theorem dX3_mend_46 : decode cX3_mend 46 = .ok (.new 124, 3) := by decide +kernel
theorem dX3_mend_49 : decode cX3_mend 49 = .ok (.dup, 1) := by decide +kernel
theorem dX3_mend_50 : decode cX3_mend 50 = .ok (.ldc 156, 2) := by decide +kernel
theorem dX3_mend_52 : decode cX3_mend 52 = .ok (.invokespecial 128, 3) := by decide +kernel
theorem dX3_mend_55 : decode cX3_mend 55 = .ok (.athrow, 1) := by decide +kernel
theorem dX3_mend_56 : decode cX3_mend 56 = .ok (.aload_n 3, 1) := by decide +kernel
theorem dX3_mend_57 : decode cX3_mend 57 = .ok (.getfield 158, 3) := by decide +kernel
theorem dX3_mend_60 : decode cX3_mend 60 = .ok (.iconst 1, 1) := by decide +kernel
theorem dX3_mend_61 : decode cX3_mend 61 = .ok (.iadd, 1) := by decide +kernel
theorem dX3_mend_62 : decode cX3_mend 62 = .ok (.bipush 10, 2) := by decide +kernel
theorem dX3_mend_64 : decode cX3_mend 64 = .ok (.invokestatic 161, 3) := by decide +kernel
theorem dX3_mend_67 : decode cX3_mend 67 = .ok (.istore 4, 2) := by decide +kernel
theorem dX3_mend_69 : decode cX3_mend 69 = .ok (.aload_n 0, 1) := by decide +kernel
theorem dX3_mend_70 : decode cX3_mend 70 = .ok (.iload 4, 2) := by decide +kernel
theorem dX3_mend_72 : decode cX3_mend 72 = .ok (.iload_n 2, 1) := by decide +kernel
theorem dX3_mend_73 : decode cX3_mend 73 = .ok (.aload_n 0, 1) := by decide +kernel
theorem dX3_mend_74 : decode cX3_mend 74 = .ok (.getfield 41, 3) := by decide +kernel
theorem dX3_mend_77 : decode cX3_mend 77 = .ok (.aload_n 3, 1) := by decide +kernel
theorem dX3_mend_78 : decode cX3_mend 78 = .ok (.getfield 166, 3) := by decide +kernel
theorem dX3_mend_81 : decode cX3_mend 81 = .ok (.invokestatic 169, 3) := by decide +kernel
theorem dX3_mend_84 : decode cX3_mend 84 = .ok (.aload_n 3, 1) := by decide +kernel
theorem dX3_mend_85 : decode cX3_mend 85 = .ok (.getfield 136, 3) := by decide +kernel
theorem dX3_mend_88 : decode cX3_mend 88 = .ok (.invokevirtual 110, 3) := by decide +kernel
theorem dX3_mend_91 : decode cX3_mend 91 = .ok (.astore 5, 2) := by decide +kernel
theorem dX3_mend_93 : decode cX3_mend 93 = .ok (.aload_n 0, 1) := by decide +kernel
theorem dX3_mend_94 : decode cX3_mend 94 = .ok (.aload 5, 2) := by decide +kernel
theorem dX3_mend_96 : decode cX3_mend 96 = .ok (.aload_n 3, 1) := by decide +kernel
theorem dX3_mend_97 : decode cX3_mend 97 = .ok (.invokevirtual 172, 3) := by decide +kernel
theorem dX3_mend_100 : decode cX3_mend 100 = .ok (.aload_n 3, 1) := by decide +kernel
theorem dX3_mend_101 : decode cX3_mend 101 = .ok (.iconst 1, 1) := by decide +kernel
theorem dX3_mend_102 : decode cX3_mend 102 = .ok (.putfield 118, 3) := by decide +kernel
theorem dX3_mend_105 : decode cX3_mend 105 = .ok (.aload_n 3, 1) := by decide +kernel
theorem dX3_mend_106 : decode cX3_mend 106 = .ok (.aload_n 0, 1) := by decide +kernel
theorem dX3_mend_107 : decode cX3_mend 107 = .ok (.getfield 41, 3) := by decide +kernel
theorem dX3_mend_110 : decode cX3_mend 110 = .ok (.iconst 1, 1) := by decide +kernel
theorem dX3_mend_111 : decode cX3_mend 111 = .ok (.iadd, 1) := by decide +kernel
theorem dX3_mend_112 : decode cX3_mend 112 = .ok (.putfield 136, 3) := by decide +kernel
theorem dX3_mend_115 : decode cX3_mend 115 = .ok (.aload 5, 2) := by decide +kernel
theorem dX3_mend_117 : decode cX3_mend 117 = .ok (.getfield 94, 3) := by decide +kernel
theorem dX3_mend_120 : decode cX3_mend 120 = .ok (.ireturn, 1) := by decide +kernel
theorem dX3_deny_0 : decode cX3_deny 0 = .ok (.iload_n 2, 1) := by decide +kernel
theorem dX3_deny_1 : decode cX3_deny 1 = .ok (.invokestatic 48, 3) := by decide +kernel
theorem dX3_deny_4 : decode cX3_deny 4 = .ok (.iload_n 1, 1) := by decide +kernel
theorem dX3_deny_5 : decode cX3_deny 5 = .ok (.ifCond .eq 8, 3) := by decide +kernel
theorem dX3_deny_8 : decode cX3_deny 8 = .ok (.iload_n 1, 1) := by decide +kernel
theorem dX3_deny_9 : decode cX3_deny 9 = .ok (.iconst (-1), 1) := by decide +kernel
theorem dX3_deny_10 : decode cX3_deny 10 = .ok (.if_icmp .ne 13, 3) := by decide +kernel
theorem dX3_deny_13 : decode cX3_deny 13 = .ok (.new 51, 3) := by decide +kernel
theorem dX3_deny_16 : decode cX3_deny 16 = .ok (.dup, 1) := by decide +kernel
theorem dX3_deny_17 : decode cX3_deny 17 = .ok (.ldc 176, 2) := by decide +kernel
theorem dX3_deny_19 : decode cX3_deny 19 = .ok (.invokespecial 55, 3) := by decide +kernel
theorem dX3_deny_22 : decode cX3_deny 22 = .ok (.athrow, 1) := by decide +kernel
theorem dX3_deny_23 : decode cX3_deny 23 = .ok (.iload_n 3, 1) := by decide +kernel
theorem dX3_deny_24 : decode cX3_deny 24 = .ok (.aload_n 0, 1) := by decide +kernel
theorem dX3_deny_25 : decode cX3_deny 25 = .ok (.getfield 41, 3) := by decide +kernel
theorem dX3_deny_28 : decode cX3_deny 28 = .ok (.if_icmp .le 10, 3) := by decide +kernel
theorem dX3_deny_31 : decode cX3_deny 31 = .ok (.iload_n 3, 1) := by decide +kernel
theorem dX3_deny_32 : decode cX3_deny 32 = .ok (.sipush 2000, 3) := by decide +kernel
theorem dX3_deny_35 : decode cX3_deny 35 = .ok (.if_icmp .le 13, 3) := by decide +kernel
theorem dX3_deny_38 : decode cX3_deny 38 = .ok (.new 51, 3) := by decide +kernel
theorem dX3_deny_41 : decode cX3_deny 41 = .ok (.dup, 1) := by decide +kernel
theorem dX3_deny_42 : decode cX3_deny 42 = .ok (.ldc 178, 2) := by decide +kernel
theorem dX3_deny_44 : decode cX3_deny 44 = .ok (.invokespecial 55, 3) := by decide +kernel
theorem dX3_deny_47 : decode cX3_deny 47 = .ok (.athrow, 1) := by decide +kernel
theorem dX3_deny_48 : decode cX3_deny 48 = .ok (.aload_n 0, 1) := by decide +kernel
theorem dX3_deny_49 : decode cX3_deny 49 = .ok (.bipush 10, 2) := by decide +kernel
theorem dX3_deny_51 : decode cX3_deny 51 = .ok (.iload_n 1, 1) := by decide +kernel
theorem dX3_deny_52 : decode cX3_deny 52 = .ok (.iconst (-1), 1) := by decide +kernel
theorem dX3_deny_53 : decode cX3_deny 53 = .ok (.ixor, 1) := by decide +kernel
theorem dX3_deny_54 : decode cX3_deny 54 = .ok (.aload_n 0, 1) := by decide +kernel
theorem dX3_deny_55 : decode cX3_deny 55 = .ok (.getfield 41, 3) := by decide +kernel
theorem dX3_deny_58 : decode cX3_deny 58 = .ok (.iload_n 3, 1) := by decide +kernel
theorem dX3_deny_59 : decode cX3_deny 59 = .ok (.invokevirtual 110, 3) := by decide +kernel
theorem dX3_deny_62 : decode cX3_deny 62 = .ok (.astore 4, 2) := by decide +kernel
theorem dX3_deny_64 : decode cX3_deny 64 = .ok (.aload 4, 2) := by decide +kernel
theorem dX3_deny_66 : decode cX3_deny 66 = .ok (.iload_n 2, 1) := by decide +kernel
theorem dX3_deny_67 : decode cX3_deny 67 = .ok (.invokevirtual 133, 3) := by decide +kernel
theorem dX3_deny_70 : decode cX3_deny 70 = .ok (.aload 4, 2) := by decide +kernel
theorem dX3_deny_72 : decode cX3_deny 72 = .ok (.getfield 94, 3) := by decide +kernel
theorem dX3_deny_75 : decode cX3_deny 75 = .ok (.ireturn, 1) := by decide +kernel
theorem dX3_queued_0 : decode cX3_queued 0 = .ok (.iload_n 1, 1) := by decide +kernel
theorem dX3_queued_1 : decode cX3_queued 1 = .ok (.invokestatic 48, 3) := by decide +kernel
theorem dX3_queued_4 : decode cX3_queued 4 = .ok (.iconst 0, 1) := by decide +kernel
theorem dX3_queued_5 : decode cX3_queued 5 = .ok (.istore_n 2, 1) := by decide +kernel
theorem dX3_queued_6 : decode cX3_queued 6 = .ok (.iconst 0, 1) := by decide +kernel
theorem dX3_queued_7 : decode cX3_queued 7 = .ok (.istore_n 3, 1) := by decide +kernel
theorem dX3_queued_8 : decode cX3_queued 8 = .ok (.iload_n 3, 1) := by decide +kernel
theorem dX3_queued_9 : decode cX3_queued 9 = .ok (.aload_n 0, 1) := by decide +kernel
theorem dX3_queued_10 : decode cX3_queued 10 = .ok (.getfield 28, 3) := by decide +kernel
theorem dX3_queued_13 : decode cX3_queued 13 = .ok (.if_icmp .ge 29, 3) := by decide +kernel
theorem dX3_queued_16 : decode cX3_queued 16 = .ok (.aload_n 0, 1) := by decide +kernel
theorem dX3_queued_17 : decode cX3_queued 17 = .ok (.getfield 21, 3) := by decide +kernel
theorem dX3_queued_20 : decode cX3_queued 20 = .ok (.iload_n 3, 1) := by decide +kernel
theorem dX3_queued_21 : decode cX3_queued 21 = .ok (.aaload, 1) := by decide +kernel
theorem dX3_queued_22 : decode cX3_queued 22 = .ok (.iload_n 1, 1) := by decide +kernel
theorem dX3_queued_23 : decode cX3_queued 23 = .ok (.aload_n 0, 1) := by decide +kernel
theorem dX3_queued_24 : decode cX3_queued 24 = .ok (.getfield 41, 3) := by decide +kernel
theorem dX3_queued_27 : decode cX3_queued 27 = .ok (.invokevirtual 129, 3) := by decide +kernel
theorem dX3_queued_30 : decode cX3_queued 30 = .ok (.ifCond .eq 6, 3) := by decide +kernel
theorem dX3_queued_33 : decode cX3_queued 33 = .ok (.iinc 2 1, 3) := by decide +kernel
theorem dX3_queued_36 : decode cX3_queued 36 = .ok (.iinc 3 1, 3) := by decide +kernel
theorem dX3_queued_39 : decode cX3_queued 39 = .ok (.goto (-31), 3) := by decide +kernel
theorem dX3_queued_42 : decode cX3_queued 42 = .ok (.iload_n 2, 1) := by decide +kernel
theorem dX3_queued_43 : decode cX3_queued 43 = .ok (.ireturn, 1) := by decide +kernel
theorem dX3_queuedAt_0 : decode cX3_queuedAt 0 = .ok (.iload_n 1, 1) := by decide +kernel
theorem dX3_queuedAt_1 : decode cX3_queuedAt 1 = .ok (.invokestatic 48, 3) := by decide +kernel
theorem dX3_queuedAt_4 : decode cX3_queuedAt 4 = .ok (.iconst 0, 1) := by decide +kernel
theorem dX3_queuedAt_5 : decode cX3_queuedAt 5 = .ok (.istore_n 3, 1) := by decide +kernel
theorem dX3_queuedAt_6 : decode cX3_queuedAt 6 = .ok (.iconst 0, 1) := by decide +kernel
theorem dX3_queuedAt_7 : decode cX3_queuedAt 7 = .ok (.istore 4, 2) := by decide +kernel
theorem dX3_queuedAt_9 : decode cX3_queuedAt 9 = .ok (.iload 4, 2) := by decide +kernel
theorem dX3_queuedAt_11 : decode cX3_queuedAt 11 = .ok (.aload_n 0, 1) := by decide +kernel
theorem dX3_queuedAt_12 : decode cX3_queuedAt 12 = .ok (.getfield 28, 3) := by decide +kernel
theorem dX3_queuedAt_15 : decode cX3_queuedAt 15 = .ok (.if_icmp .ge 45, 3) := by decide +kernel
theorem dX3_queuedAt_18 : decode cX3_queuedAt 18 = .ok (.aload_n 0, 1) := by decide +kernel
theorem dX3_queuedAt_19 : decode cX3_queuedAt 19 = .ok (.getfield 25, 3) := by decide +kernel
theorem dX3_queuedAt_22 : decode cX3_queuedAt 22 = .ok (.iload 4, 2) := by decide +kernel
theorem dX3_queuedAt_24 : decode cX3_queuedAt 24 = .ok (.aaload, 1) := by decide +kernel
theorem dX3_queuedAt_25 : decode cX3_queuedAt 25 = .ok (.astore 5, 2) := by decide +kernel
theorem dX3_queuedAt_27 : decode cX3_queuedAt 27 = .ok (.aload 5, 2) := by decide +kernel
theorem dX3_queuedAt_29 : decode cX3_queuedAt 29 = .ok (.iload_n 1, 1) := by decide +kernel
theorem dX3_queuedAt_30 : decode cX3_queuedAt 30 = .ok (.aload_n 0, 1) := by decide +kernel
theorem dX3_queuedAt_31 : decode cX3_queuedAt 31 = .ok (.getfield 41, 3) := by decide +kernel
theorem dX3_queuedAt_34 : decode cX3_queuedAt 34 = .ok (.invokevirtual 129, 3) := by decide +kernel
theorem dX3_queuedAt_37 : decode cX3_queuedAt 37 = .ok (.ifCond .eq 17, 3) := by decide +kernel
theorem dX3_queuedAt_40 : decode cX3_queuedAt 40 = .ok (.iload_n 3, 1) := by decide +kernel
theorem dX3_queuedAt_41 : decode cX3_queuedAt 41 = .ok (.iload_n 2, 1) := by decide +kernel
theorem dX3_queuedAt_42 : decode cX3_queuedAt 42 = .ok (.if_icmp .ne 9, 3) := by decide +kernel
theorem dX3_queuedAt_45 : decode cX3_queuedAt 45 = .ok (.aload 5, 2) := by decide +kernel
theorem dX3_queuedAt_47 : decode cX3_queuedAt 47 = .ok (.getfield 94, 3) := by decide +kernel
theorem dX3_queuedAt_50 : decode cX3_queuedAt 50 = .ok (.ireturn, 1) := by decide +kernel
theorem dX3_queuedAt_51 : decode cX3_queuedAt 51 = .ok (.iinc 3 1, 3) := by decide +kernel
theorem dX3_queuedAt_54 : decode cX3_queuedAt 54 = .ok (.iinc 4 1, 3) := by decide +kernel
theorem dX3_queuedAt_57 : decode cX3_queuedAt 57 = .ok (.goto (-48), 3) := by decide +kernel
theorem dX3_queuedAt_60 : decode cX3_queuedAt 60 = .ok (.new 180, 3) := by decide +kernel
theorem dX3_queuedAt_63 : decode cX3_queuedAt 63 = .ok (.dup, 1) := by decide +kernel
theorem dX3_queuedAt_64 : decode cX3_queuedAt 64 = .ok (.ldc 182, 2) := by decide +kernel
theorem dX3_queuedAt_66 : decode cX3_queuedAt 66 = .ok (.invokespecial 184, 3) := by decide +kernel
theorem dX3_queuedAt_69 : decode cX3_queuedAt 69 = .ok (.athrow, 1) := by decide +kernel
theorem dX3_isDue_0 : decode cX3_isDue 0 = .ok (.aload_n 0, 1) := by decide +kernel
theorem dX3_isDue_1 : decode cX3_isDue 1 = .ok (.iload_n 1, 1) := by decide +kernel
theorem dX3_isDue_2 : decode cX3_isDue 2 = .ok (.invokevirtual 114, 3) := by decide +kernel
theorem dX3_isDue_5 : decode cX3_isDue 5 = .ok (.aload_n 0, 1) := by decide +kernel
theorem dX3_isDue_6 : decode cX3_isDue 6 = .ok (.getfield 41, 3) := by decide +kernel
theorem dX3_isDue_9 : decode cX3_isDue 9 = .ok (.invokevirtual 185, 3) := by decide +kernel
theorem dX3_isDue_12 : decode cX3_isDue 12 = .ok (.ireturn, 1) := by decide +kernel
theorem dX3_pass_0 : decode cX3_pass 0 = .ok (.aload_n 0, 1) := by decide +kernel
theorem dX3_pass_1 : decode cX3_pass 1 = .ok (.iload_n 1, 1) := by decide +kernel
theorem dX3_pass_2 : decode cX3_pass 2 = .ok (.invokevirtual 69, 3) := by decide +kernel
theorem dX3_pass_5 : decode cX3_pass 5 = .ok (.getfield 90, 3) := by decide +kernel
theorem dX3_pass_8 : decode cX3_pass 8 = .ok (.astore_n 3, 1) := by decide +kernel
theorem dX3_pass_9 : decode cX3_pass 9 = .ok (.iload_n 2, 1) := by decide +kernel
theorem dX3_pass_10 : decode cX3_pass 10 = .ok (.iconst 1, 1) := by decide +kernel
theorem dX3_pass_11 : decode cX3_pass 11 = .ok (.if_icmp .lt 10, 3) := by decide +kernel
theorem dX3_pass_14 : decode cX3_pass 14 = .ok (.iload_n 2, 1) := by decide +kernel
theorem dX3_pass_15 : decode cX3_pass 15 = .ok (.sipush 999, 3) := by decide +kernel
theorem dX3_pass_18 : decode cX3_pass 18 = .ok (.if_icmp .le 13, 3) := by decide +kernel
theorem dX3_pass_21 : decode cX3_pass 21 = .ok (.new 51, 3) := by decide +kernel
theorem dX3_pass_24 : decode cX3_pass 24 = .ok (.dup, 1) := by decide +kernel
theorem dX3_pass_25 : decode cX3_pass 25 = .ok (.ldc 188, 2) := by decide +kernel
theorem dX3_pass_27 : decode cX3_pass 27 = .ok (.invokespecial 55, 3) := by decide +kernel
theorem dX3_pass_30 : decode cX3_pass 30 = .ok (.athrow, 1) := by decide +kernel
theorem dX3_pass_31 : decode cX3_pass 31 = .ok (.aload_n 3, 1) := by decide +kernel
theorem dX3_pass_32 : decode cX3_pass 32 = .ok (.ifnonnull 5, 3) := by decide +kernel
theorem dX3_pass_35 : decode cX3_pass 35 = .ok (.iconst 0, 1) := by decide +kernel
theorem dX3_pass_36 : decode cX3_pass 36 = .ok (.ireturn, 1) := by decide +kernel
theorem dX3_pass_37 : decode cX3_pass 37 = .ok (.aload_n 3, 1) := by decide +kernel
theorem dX3_pass_38 : decode cX3_pass 38 = .ok (.getfield 190, 3) := by decide +kernel
theorem dX3_pass_41 : decode cX3_pass 41 = .ok (.iload_n 1, 1) := by decide +kernel
theorem dX3_pass_42 : decode cX3_pass 42 = .ok (.dup2, 1) := by decide +kernel
theorem dX3_pass_43 : decode cX3_pass 43 = .ok (.iaload, 1) := by decide +kernel
theorem dX3_pass_44 : decode cX3_pass 44 = .ok (.iload_n 2, 1) := by decide +kernel
theorem dX3_pass_45 : decode cX3_pass 45 = .ok (.iadd, 1) := by decide +kernel
theorem dX3_pass_46 : decode cX3_pass 46 = .ok (.iastore, 1) := by decide +kernel
theorem dX3_pass_47 : decode cX3_pass 47 = .ok (.aload_n 0, 1) := by decide +kernel
theorem dX3_pass_48 : decode cX3_pass 48 = .ok (.getfield 34, 3) := by decide +kernel
theorem dX3_pass_51 : decode cX3_pass 51 = .ok (.aload_n 3, 1) := by decide +kernel
theorem dX3_pass_52 : decode cX3_pass 52 = .ok (.getfield 94, 3) := by decide +kernel
theorem dX3_pass_55 : decode cX3_pass 55 = .ok (.aload_n 0, 1) := by decide +kernel
theorem dX3_pass_56 : decode cX3_pass 56 = .ok (.getfield 41, 3) := by decide +kernel
theorem dX3_pass_59 : decode cX3_pass 59 = .ok (.iload_n 2, 1) := by decide +kernel
theorem dX3_pass_60 : decode cX3_pass 60 = .ok (.invokevirtual 194, 3) := by decide +kernel
theorem dX3_pass_63 : decode cX3_pass 63 = .ok (.aload_n 3, 1) := by decide +kernel
theorem dX3_pass_64 : decode cX3_pass 64 = .ok (.getfield 190, 3) := by decide +kernel
theorem dX3_pass_67 : decode cX3_pass 67 = .ok (.iload_n 1, 1) := by decide +kernel
theorem dX3_pass_68 : decode cX3_pass 68 = .ok (.iaload, 1) := by decide +kernel
theorem dX3_pass_69 : decode cX3_pass 69 = .ok (.ireturn, 1) := by decide +kernel
theorem dX3_readers_0 : decode cX3_readers 0 = .ok (.aload_n 0, 1) := by decide +kernel
theorem dX3_readers_1 : decode cX3_readers 1 = .ok (.iload_n 1, 1) := by decide +kernel
theorem dX3_readers_2 : decode cX3_readers 2 = .ok (.invokevirtual 114, 3) := by decide +kernel
theorem dX3_readers_5 : decode cX3_readers 5 = .ok (.astore_n 3, 1) := by decide +kernel
theorem dX3_readers_6 : decode cX3_readers 6 = .ok (.iload_n 2, 1) := by decide +kernel
theorem dX3_readers_7 : decode cX3_readers 7 = .ok (.invokestatic 48, 3) := by decide +kernel
theorem dX3_readers_10 : decode cX3_readers 10 = .ok (.aload_n 0, 1) := by decide +kernel
theorem dX3_readers_11 : decode cX3_readers 11 = .ok (.aload_n 3, 1) := by decide +kernel
theorem dX3_readers_12 : decode cX3_readers 12 = .ok (.iload_n 2, 1) := by decide +kernel
theorem dX3_readers_13 : decode cX3_readers 13 = .ok (.invokevirtual 198, 3) := by decide +kernel
theorem dX3_readers_16 : decode cX3_readers 16 = .ok (.ireturn, 1) := by decide +kernel
theorem dX3_readIn_0 : decode cX3_readIn 0 = .ok (.aload_n 0, 1) := by decide +kernel
theorem dX3_readIn_1 : decode cX3_readIn 1 = .ok (.getfield 34, 3) := by decide +kernel
theorem dX3_readIn_4 : decode cX3_readIn 4 = .ok (.aload_n 0, 1) := by decide +kernel
theorem dX3_readIn_5 : decode cX3_readIn 5 = .ok (.iload_n 1, 1) := by decide +kernel
theorem dX3_readIn_6 : decode cX3_readIn 6 = .ok (.invokevirtual 114, 3) := by decide +kernel
theorem dX3_readIn_9 : decode cX3_readIn 9 = .ok (.getfield 94, 3) := by decide +kernel
theorem dX3_readIn_12 : decode cX3_readIn 12 = .ok (.iload_n 2, 1) := by decide +kernel
theorem dX3_readIn_13 : decode cX3_readIn 13 = .ok (.invokevirtual 202, 3) := by decide +kernel
theorem dX3_readIn_16 : decode cX3_readIn 16 = .ok (.ireturn, 1) := by decide +kernel
theorem dX3_suspects_0 : decode cX3_suspects 0 = .ok (.iload_n 1, 1) := by decide +kernel
theorem dX3_suspects_1 : decode cX3_suspects 1 = .ok (.iload_n 2, 1) := by decide +kernel
theorem dX3_suspects_2 : decode cX3_suspects 2 = .ok (.invokestatic 205, 3) := by decide +kernel
theorem dX3_suspects_5 : decode cX3_suspects 5 = .ok (.iconst 0, 1) := by decide +kernel
theorem dX3_suspects_6 : decode cX3_suspects 6 = .ok (.istore_n 3, 1) := by decide +kernel
theorem dX3_suspects_7 : decode cX3_suspects 7 = .ok (.iconst 0, 1) := by decide +kernel
theorem dX3_suspects_8 : decode cX3_suspects 8 = .ok (.istore 4, 2) := by decide +kernel
theorem dX3_suspects_10 : decode cX3_suspects 10 = .ok (.iload 4, 2) := by decide +kernel
theorem dX3_suspects_12 : decode cX3_suspects 12 = .ok (.aload_n 0, 1) := by decide +kernel
theorem dX3_suspects_13 : decode cX3_suspects 13 = .ok (.getfield 28, 3) := by decide +kernel
theorem dX3_suspects_16 : decode cX3_suspects 16 = .ok (.if_icmp .ge 28, 3) := by decide +kernel
theorem dX3_suspects_19 : decode cX3_suspects 19 = .ok (.aload_n 0, 1) := by decide +kernel
theorem dX3_suspects_20 : decode cX3_suspects 20 = .ok (.aload_n 0, 1) := by decide +kernel
theorem dX3_suspects_21 : decode cX3_suspects 21 = .ok (.getfield 21, 3) := by decide +kernel
theorem dX3_suspects_24 : decode cX3_suspects 24 = .ok (.iload 4, 2) := by decide +kernel
theorem dX3_suspects_26 : decode cX3_suspects 26 = .ok (.aaload, 1) := by decide +kernel
theorem dX3_suspects_27 : decode cX3_suspects 27 = .ok (.iload_n 1, 1) := by decide +kernel
theorem dX3_suspects_28 : decode cX3_suspects 28 = .ok (.iload_n 2, 1) := by decide +kernel
theorem dX3_suspects_29 : decode cX3_suspects 29 = .ok (.invokevirtual 208, 3) := by decide +kernel
theorem dX3_suspects_32 : decode cX3_suspects 32 = .ok (.ifCond .eq 6, 3) := by decide +kernel
theorem dX3_suspects_35 : decode cX3_suspects 35 = .ok (.iinc 3 1, 3) := by decide +kernel
theorem dX3_suspects_38 : decode cX3_suspects 38 = .ok (.iinc 4 1, 3) := by decide +kernel
theorem dX3_suspects_41 : decode cX3_suspects 41 = .ok (.goto (-31), 3) := by decide +kernel
theorem dX3_suspects_44 : decode cX3_suspects 44 = .ok (.iload_n 3, 1) := by decide +kernel
theorem dX3_suspects_45 : decode cX3_suspects 45 = .ok (.ireturn, 1) := by decide +kernel
theorem dX3_suspectAt_0 : decode cX3_suspectAt 0 = .ok (.iload_n 1, 1) := by decide +kernel
theorem dX3_suspectAt_1 : decode cX3_suspectAt 1 = .ok (.iload_n 2, 1) := by decide +kernel
theorem dX3_suspectAt_2 : decode cX3_suspectAt 2 = .ok (.invokestatic 205, 3) := by decide +kernel
theorem dX3_suspectAt_5 : decode cX3_suspectAt 5 = .ok (.iconst 0, 1) := by decide +kernel
theorem dX3_suspectAt_6 : decode cX3_suspectAt 6 = .ok (.istore 4, 2) := by decide +kernel
theorem dX3_suspectAt_8 : decode cX3_suspectAt 8 = .ok (.iload 4, 2) := by decide +kernel
theorem dX3_suspectAt_10 : decode cX3_suspectAt 10 = .ok (.aload_n 0, 1) := by decide +kernel
theorem dX3_suspectAt_11 : decode cX3_suspectAt 11 = .ok (.getfield 28, 3) := by decide +kernel
theorem dX3_suspectAt_14 : decode cX3_suspectAt 14 = .ok (.if_icmp .ge 44, 3) := by decide +kernel
theorem dX3_suspectAt_17 : decode cX3_suspectAt 17 = .ok (.aload_n 0, 1) := by decide +kernel
theorem dX3_suspectAt_18 : decode cX3_suspectAt 18 = .ok (.getfield 21, 3) := by decide +kernel
theorem dX3_suspectAt_21 : decode cX3_suspectAt 21 = .ok (.iload 4, 2) := by decide +kernel
theorem dX3_suspectAt_23 : decode cX3_suspectAt 23 = .ok (.aaload, 1) := by decide +kernel
theorem dX3_suspectAt_24 : decode cX3_suspectAt 24 = .ok (.astore 5, 2) := by decide +kernel
theorem dX3_suspectAt_26 : decode cX3_suspectAt 26 = .ok (.aload_n 0, 1) := by decide +kernel
theorem dX3_suspectAt_27 : decode cX3_suspectAt 27 = .ok (.aload 5, 2) := by decide +kernel
theorem dX3_suspectAt_29 : decode cX3_suspectAt 29 = .ok (.iload_n 1, 1) := by decide +kernel
theorem dX3_suspectAt_30 : decode cX3_suspectAt 30 = .ok (.iload_n 2, 1) := by decide +kernel
theorem dX3_suspectAt_31 : decode cX3_suspectAt 31 = .ok (.invokevirtual 208, 3) := by decide +kernel
theorem dX3_suspectAt_34 : decode cX3_suspectAt 34 = .ok (.ifCond .eq 18, 3) := by decide +kernel
theorem dX3_suspectAt_37 : decode cX3_suspectAt 37 = .ok (.aload_n 0, 1) := by decide +kernel
theorem dX3_suspectAt_38 : decode cX3_suspectAt 38 = .ok (.aload 5, 2) := by decide +kernel
theorem dX3_suspectAt_40 : decode cX3_suspectAt 40 = .ok (.iload_n 1, 1) := by decide +kernel
theorem dX3_suspectAt_41 : decode cX3_suspectAt 41 = .ok (.iload_n 2, 1) := by decide +kernel
theorem dX3_suspectAt_42 : decode cX3_suspectAt 42 = .ok (.invokevirtual 212, 3) := by decide +kernel
theorem dX3_suspectAt_45 : decode cX3_suspectAt 45 = .ok (.iload_n 3, 1) := by decide +kernel
theorem dX3_suspectAt_46 : decode cX3_suspectAt 46 = .ok (.if_icmp .ne 6, 3) := by decide +kernel
theorem dX3_suspectAt_49 : decode cX3_suspectAt 49 = .ok (.iload 4, 2) := by decide +kernel
theorem dX3_suspectAt_51 : decode cX3_suspectAt 51 = .ok (.ireturn, 1) := by decide +kernel
theorem dX3_suspectAt_52 : decode cX3_suspectAt 52 = .ok (.iinc 4 1, 3) := by decide +kernel
theorem dX3_suspectAt_55 : decode cX3_suspectAt 55 = .ok (.goto (-47), 3) := by decide +kernel
theorem dX3_suspectAt_58 : decode cX3_suspectAt 58 = .ok (.new 180, 3) := by decide +kernel
theorem dX3_suspectAt_61 : decode cX3_suspectAt 61 = .ok (.dup, 1) := by decide +kernel
theorem dX3_suspectAt_62 : decode cX3_suspectAt 62 = .ok (.ldc 216, 2) := by decide +kernel
theorem dX3_suspectAt_64 : decode cX3_suspectAt 64 = .ok (.invokespecial 184, 3) := by decide +kernel
theorem dX3_suspectAt_67 : decode cX3_suspectAt 67 = .ok (.athrow, 1) := by decide +kernel
theorem dX3_go_0 : decode cX3_go 0 = .ok (.iload_n 1, 1) := by decide +kernel
theorem dX3_go_1 : decode cX3_go 1 = .ok (.iconst 1, 1) := by decide +kernel
theorem dX3_go_2 : decode cX3_go 2 = .ok (.if_icmp .lt 9, 3) := by decide +kernel
theorem dX3_go_5 : decode cX3_go 5 = .ok (.iload_n 1, 1) := by decide +kernel
theorem dX3_go_6 : decode cX3_go 6 = .ok (.bipush 48, 2) := by decide +kernel
theorem dX3_go_8 : decode cX3_go 8 = .ok (.if_icmp .le 13, 3) := by decide +kernel
theorem dX3_go_11 : decode cX3_go 11 = .ok (.new 51, 3) := by decide +kernel
theorem dX3_go_14 : decode cX3_go 14 = .ok (.dup, 1) := by decide +kernel
theorem dX3_go_15 : decode cX3_go 15 = .ok (.ldc 218, 2) := by decide +kernel
theorem dX3_go_17 : decode cX3_go 17 = .ok (.invokespecial 55, 3) := by decide +kernel
theorem dX3_go_20 : decode cX3_go 20 = .ok (.athrow, 1) := by decide +kernel
theorem dX3_go_21 : decode cX3_go 21 = .ok (.aload_n 0, 1) := by decide +kernel
theorem dX3_go_22 : decode cX3_go 22 = .ok (.getfield 41, 3) := by decide +kernel
theorem dX3_go_25 : decode cX3_go 25 = .ok (.iload_n 1, 1) := by decide +kernel
theorem dX3_go_26 : decode cX3_go 26 = .ok (.iadd, 1) := by decide +kernel
theorem dX3_go_27 : decode cX3_go 27 = .ok (.sipush 2000, 3) := by decide +kernel
theorem dX3_go_30 : decode cX3_go 30 = .ok (.if_icmp .le 13, 3) := by decide +kernel
theorem dX3_go_33 : decode cX3_go 33 = .ok (.new 58, 3) := by decide +kernel
theorem dX3_go_36 : decode cX3_go 36 = .ok (.dup, 1) := by decide +kernel
theorem dX3_go_37 : decode cX3_go 37 = .ok (.ldc 220, 2) := by decide +kernel
theorem dX3_go_39 : decode cX3_go 39 = .ok (.invokespecial 62, 3) := by decide +kernel
theorem dX3_go_42 : decode cX3_go 42 = .ok (.athrow, 1) := by decide +kernel
theorem dX3_go_43 : decode cX3_go 43 = .ok (.iconst 0, 1) := by decide +kernel
theorem dX3_go_44 : decode cX3_go 44 = .ok (.istore_n 2, 1) := by decide +kernel
theorem dX3_go_45 : decode cX3_go 45 = .ok (.iload_n 2, 1) := by decide +kernel
theorem dX3_go_46 : decode cX3_go 46 = .ok (.iload_n 1, 1) := by decide +kernel
theorem dX3_go_47 : decode cX3_go 47 = .ok (.if_icmp .ge 45, 3) := by decide +kernel
theorem dX3_go_50 : decode cX3_go 50 = .ok (.aload_n 0, 1) := by decide +kernel
theorem dX3_go_51 : decode cX3_go 51 = .ok (.dup, 1) := by decide +kernel
theorem dX3_go_52 : decode cX3_go 52 = .ok (.getfield 41, 3) := by decide +kernel
theorem dX3_go_55 : decode cX3_go 55 = .ok (.iconst 1, 1) := by decide +kernel
theorem dX3_go_56 : decode cX3_go 56 = .ok (.iadd, 1) := by decide +kernel
theorem dX3_go_57 : decode cX3_go 57 = .ok (.putfield 41, 3) := by decide +kernel
theorem dX3_go_60 : decode cX3_go 60 = .ok (.iconst 0, 1) := by decide +kernel
theorem dX3_go_61 : decode cX3_go 61 = .ok (.istore_n 3, 1) := by decide +kernel
theorem dX3_go_62 : decode cX3_go 62 = .ok (.iload_n 3, 1) := by decide +kernel
theorem dX3_go_63 : decode cX3_go 63 = .ok (.aload_n 0, 1) := by decide +kernel
theorem dX3_go_64 : decode cX3_go 64 = .ok (.getfield 15, 3) := by decide +kernel
theorem dX3_go_67 : decode cX3_go 67 = .ok (.if_icmp .ge 19, 3) := by decide +kernel
theorem dX3_go_70 : decode cX3_go 70 = .ok (.aload_n 0, 1) := by decide +kernel
theorem dX3_go_71 : decode cX3_go 71 = .ok (.aload_n 0, 1) := by decide +kernel
theorem dX3_go_72 : decode cX3_go 72 = .ok (.getfield 11, 3) := by decide +kernel
theorem dX3_go_75 : decode cX3_go 75 = .ok (.iload_n 3, 1) := by decide +kernel
theorem dX3_go_76 : decode cX3_go 76 = .ok (.aaload, 1) := by decide +kernel
theorem dX3_go_77 : decode cX3_go 77 = .ok (.invokevirtual 222, 3) := by decide +kernel
theorem dX3_go_80 : decode cX3_go 80 = .ok (.iinc 3 1, 3) := by decide +kernel
theorem dX3_go_83 : decode cX3_go 83 = .ok (.goto (-21), 3) := by decide +kernel
theorem dX3_go_86 : decode cX3_go 86 = .ok (.iinc 2 1, 3) := by decide +kernel
theorem dX3_go_89 : decode cX3_go 89 = .ok (.goto (-44), 3) := by decide +kernel
theorem dX3_go_92 : decode cX3_go 92 = .ok (.aload_n 0, 1) := by decide +kernel
theorem dX3_go_93 : decode cX3_go 93 = .ok (.getfield 41, 3) := by decide +kernel
theorem dX3_go_96 : decode cX3_go 96 = .ok (.ireturn, 1) := by decide +kernel
theorem dX3_hour_0 : decode cX3_hour 0 = .ok (.aload_n 0, 1) := by decide +kernel
theorem dX3_hour_1 : decode cX3_hour 1 = .ok (.getfield 41, 3) := by decide +kernel
theorem dX3_hour_4 : decode cX3_hour 4 = .ok (.ireturn, 1) := by decide +kernel
theorem dX3_boards_0 : decode cX3_boards 0 = .ok (.aload_n 0, 1) := by decide +kernel
theorem dX3_boards_1 : decode cX3_boards 1 = .ok (.getfield 15, 3) := by decide +kernel
theorem dX3_boards_4 : decode cX3_boards 4 = .ok (.ireturn, 1) := by decide +kernel
theorem dX3_notices_0 : decode cX3_notices 0 = .ok (.aload_n 0, 1) := by decide +kernel
theorem dX3_notices_1 : decode cX3_notices 1 = .ok (.getfield 28, 3) := by decide +kernel
theorem dX3_notices_4 : decode cX3_notices 4 = .ok (.ireturn, 1) := by decide +kernel
theorem dX3_cellAnew_0 : decode cX3_cellAnew 0 = .ok (.aload_n 0, 1) := by decide +kernel
theorem dX3_cellAnew_1 : decode cX3_cellAnew 1 = .ok (.iload_n 1, 1) := by decide +kernel
theorem dX3_cellAnew_2 : decode cX3_cellAnew 2 = .ok (.invokevirtual 69, 3) := by decide +kernel
theorem dX3_cellAnew_5 : decode cX3_cellAnew 5 = .ok (.astore 4, 2) := by decide +kernel
theorem dX3_cellAnew_7 : decode cX3_cellAnew 7 = .ok (.aload 4, 2) := by decide +kernel
theorem dX3_cellAnew_9 : decode cX3_cellAnew 9 = .ok (.invokevirtual 226, 3) := by decide +kernel
theorem dX3_cellAnew_12 : decode cX3_cellAnew 12 = .ok (.iload_n 2, 1) := by decide +kernel
theorem dX3_cellAnew_13 : decode cX3_cellAnew 13 = .ok (.iload_n 3, 1) := by decide +kernel
theorem dX3_cellAnew_14 : decode cX3_cellAnew 14 = .ok (.invokestatic 79, 3) := by decide +kernel
theorem dX3_cellAnew_17 : decode cX3_cellAnew 17 = .ok (.invokestatic 83, 3) := by decide +kernel
theorem dX3_cellAnew_20 : decode cX3_cellAnew 20 = .ok (.ireturn, 1) := by decide +kernel
theorem dX3_changes_0 : decode cX3_changes 0 = .ok (.lconst 0, 1) := by decide +kernel
theorem dX3_changes_1 : decode cX3_changes 1 = .ok (.lstore_n 1, 1) := by decide +kernel
theorem dX3_changes_2 : decode cX3_changes 2 = .ok (.iconst 0, 1) := by decide +kernel
theorem dX3_changes_3 : decode cX3_changes 3 = .ok (.istore_n 3, 1) := by decide +kernel
theorem dX3_changes_4 : decode cX3_changes 4 = .ok (.iload_n 3, 1) := by decide +kernel
theorem dX3_changes_5 : decode cX3_changes 5 = .ok (.aload_n 0, 1) := by decide +kernel
theorem dX3_changes_6 : decode cX3_changes 6 = .ok (.getfield 15, 3) := by decide +kernel
theorem dX3_changes_9 : decode cX3_changes 9 = .ok (.if_icmp .ge 22, 3) := by decide +kernel
theorem dX3_changes_12 : decode cX3_changes 12 = .ok (.lload_n 1, 1) := by decide +kernel
theorem dX3_changes_13 : decode cX3_changes 13 = .ok (.aload_n 0, 1) := by decide +kernel
theorem dX3_changes_14 : decode cX3_changes 14 = .ok (.getfield 11, 3) := by decide +kernel
theorem dX3_changes_17 : decode cX3_changes 17 = .ok (.iload_n 3, 1) := by decide +kernel
theorem dX3_changes_18 : decode cX3_changes 18 = .ok (.aaload, 1) := by decide +kernel
theorem dX3_changes_19 : decode cX3_changes 19 = .ok (.invokevirtual 230, 3) := by decide +kernel
theorem dX3_changes_22 : decode cX3_changes 22 = .ok (.i2l, 1) := by decide +kernel
theorem dX3_changes_23 : decode cX3_changes 23 = .ok (.ladd, 1) := by decide +kernel
theorem dX3_changes_24 : decode cX3_changes 24 = .ok (.lstore_n 1, 1) := by decide +kernel
theorem dX3_changes_25 : decode cX3_changes 25 = .ok (.iinc 3 1, 3) := by decide +kernel
theorem dX3_changes_28 : decode cX3_changes 28 = .ok (.goto (-24), 3) := by decide +kernel
theorem dX3_changes_31 : decode cX3_changes 31 = .ok (.lload_n 1, 1) := by decide +kernel
theorem dX3_changes_32 : decode cX3_changes 32 = .ok (.lreturn, 1) := by decide +kernel
theorem dX3_worst_0 : decode cX3_worst 0 = .ok (.aload_n 0, 1) := by decide +kernel
theorem dX3_worst_1 : decode cX3_worst 1 = .ok (.iload_n 1, 1) := by decide +kernel
theorem dX3_worst_2 : decode cX3_worst 2 = .ok (.invokevirtual 69, 3) := by decide +kernel
theorem dX3_worst_5 : decode cX3_worst 5 = .ok (.getfield 233, 3) := by decide +kernel
theorem dX3_worst_8 : decode cX3_worst 8 = .ok (.ireturn, 1) := by decide +kernel
theorem dX3_checksum_0 : decode cX3_checksum 0 = .ok (.lconst 0, 1) := by decide +kernel
theorem dX3_checksum_1 : decode cX3_checksum 1 = .ok (.lstore_n 1, 1) := by decide +kernel
theorem dX3_checksum_2 : decode cX3_checksum 2 = .ok (.iconst 0, 1) := by decide +kernel
theorem dX3_checksum_3 : decode cX3_checksum 3 = .ok (.istore_n 3, 1) := by decide +kernel
theorem dX3_checksum_4 : decode cX3_checksum 4 = .ok (.iload_n 3, 1) := by decide +kernel
theorem dX3_checksum_5 : decode cX3_checksum 5 = .ok (.aload_n 0, 1) := by decide +kernel
theorem dX3_checksum_6 : decode cX3_checksum 6 = .ok (.getfield 15, 3) := by decide +kernel
theorem dX3_checksum_9 : decode cX3_checksum 9 = .ok (.if_icmp .ge 62, 3) := by decide +kernel
theorem dX3_checksum_12 : decode cX3_checksum 12 = .ok (.aload_n 0, 1) := by decide +kernel
theorem dX3_checksum_13 : decode cX3_checksum 13 = .ok (.getfield 11, 3) := by decide +kernel
theorem dX3_checksum_16 : decode cX3_checksum 16 = .ok (.iload_n 3, 1) := by decide +kernel
theorem dX3_checksum_17 : decode cX3_checksum 17 = .ok (.aaload, 1) := by decide +kernel
theorem dX3_checksum_18 : decode cX3_checksum 18 = .ok (.astore 4, 2) := by decide +kernel
theorem dX3_checksum_20 : decode cX3_checksum 20 = .ok (.iconst 0, 1) := by decide +kernel
theorem dX3_checksum_21 : decode cX3_checksum 21 = .ok (.istore 5, 2) := by decide +kernel
theorem dX3_checksum_23 : decode cX3_checksum 23 = .ok (.iload 5, 2) := by decide +kernel
theorem dX3_checksum_25 : decode cX3_checksum 25 = .ok (.bipush 32, 2) := by decide +kernel
theorem dX3_checksum_27 : decode cX3_checksum 27 = .ok (.if_icmp .ge 38, 3) := by decide +kernel
theorem dX3_checksum_30 : decode cX3_checksum 30 = .ok (.ldc2_w 236, 3) := by decide +kernel
theorem dX3_checksum_33 : decode cX3_checksum 33 = .ok (.lload_n 1, 1) := by decide +kernel
theorem dX3_checksum_34 : decode cX3_checksum 34 = .ok (.lmul, 1) := by decide +kernel
theorem dX3_checksum_35 : decode cX3_checksum 35 = .ok (.aload 4, 2) := by decide +kernel
theorem dX3_checksum_37 : decode cX3_checksum 37 = .ok (.getfield 76, 3) := by decide +kernel
theorem dX3_checksum_40 : decode cX3_checksum 40 = .ok (.iload 5, 2) := by decide +kernel
theorem dX3_checksum_42 : decode cX3_checksum 42 = .ok (.invokestatic 83, 3) := by decide +kernel
theorem dX3_checksum_45 : decode cX3_checksum 45 = .ok (.i2l, 1) := by decide +kernel
theorem dX3_checksum_46 : decode cX3_checksum 46 = .ok (.ladd, 1) := by decide +kernel
theorem dX3_checksum_47 : decode cX3_checksum 47 = .ok (.iconst 2, 1) := by decide +kernel
theorem dX3_checksum_48 : decode cX3_checksum 48 = .ok (.aload 4, 2) := by decide +kernel
theorem dX3_checksum_50 : decode cX3_checksum 50 = .ok (.iload 5, 2) := by decide +kernel
theorem dX3_checksum_52 : decode cX3_checksum 52 = .ok (.invokevirtual 86, 3) := by decide +kernel
theorem dX3_checksum_55 : decode cX3_checksum 55 = .ok (.imul, 1) := by decide +kernel
theorem dX3_checksum_56 : decode cX3_checksum 56 = .ok (.i2l, 1) := by decide +kernel
theorem dX3_checksum_57 : decode cX3_checksum 57 = .ok (.ladd, 1) := by decide +kernel
theorem dX3_checksum_58 : decode cX3_checksum 58 = .ok (.lstore_n 1, 1) := by decide +kernel
theorem dX3_checksum_59 : decode cX3_checksum 59 = .ok (.iinc 5 1, 3) := by decide +kernel
theorem dX3_checksum_62 : decode cX3_checksum 62 = .ok (.goto (-39), 3) := by decide +kernel
theorem dX3_checksum_65 : decode cX3_checksum 65 = .ok (.iinc 3 1, 3) := by decide +kernel
theorem dX3_checksum_68 : decode cX3_checksum 68 = .ok (.goto (-64), 3) := by decide +kernel
theorem dX3_checksum_71 : decode cX3_checksum 71 = .ok (.lload_n 1, 1) := by decide +kernel
theorem dX3_checksum_72 : decode cX3_checksum 72 = .ok (.lreturn, 1) := by decide +kernel
theorem dX3_shownShare_0 : decode cX3_shownShare 0 = .ok (.aload_n 0, 1) := by decide +kernel
theorem dX3_shownShare_1 : decode cX3_shownShare 1 = .ok (.getfield 15, 3) := by decide +kernel
theorem dX3_shownShare_4 : decode cX3_shownShare 4 = .ok (.ifCond .ne 13, 3) := by decide +kernel
theorem dX3_shownShare_7 : decode cX3_shownShare 7 = .ok (.new 238, 3) := by decide +kernel
theorem dX3_shownShare_10 : decode cX3_shownShare 10 = .ok (.dup, 1) := by decide +kernel
theorem dX3_shownShare_11 : decode cX3_shownShare 11 = .ok (.ldc 240, 2) := by decide +kernel
theorem dX3_shownShare_13 : decode cX3_shownShare 13 = .ok (.invokespecial 242, 3) := by decide +kernel
theorem dX3_shownShare_16 : decode cX3_shownShare 16 = .ok (.athrow, 1) := by decide +kernel
theorem dX3_shownShare_17 : decode cX3_shownShare 17 = .ok (.iconst 0, 1) := by decide +kernel
theorem dX3_shownShare_18 : decode cX3_shownShare 18 = .ok (.istore_n 1, 1) := by decide +kernel
theorem dX3_shownShare_19 : decode cX3_shownShare 19 = .ok (.iconst 0, 1) := by decide +kernel
theorem dX3_shownShare_20 : decode cX3_shownShare 20 = .ok (.istore_n 2, 1) := by decide +kernel
theorem dX3_shownShare_21 : decode cX3_shownShare 21 = .ok (.iload_n 2, 1) := by decide +kernel
theorem dX3_shownShare_22 : decode cX3_shownShare 22 = .ok (.aload_n 0, 1) := by decide +kernel
theorem dX3_shownShare_23 : decode cX3_shownShare 23 = .ok (.getfield 15, 3) := by decide +kernel
theorem dX3_shownShare_26 : decode cX3_shownShare 26 = .ok (.if_icmp .ge 24, 3) := by decide +kernel
theorem dX3_shownShare_29 : decode cX3_shownShare 29 = .ok (.aload_n 0, 1) := by decide +kernel
theorem dX3_shownShare_30 : decode cX3_shownShare 30 = .ok (.getfield 11, 3) := by decide +kernel
theorem dX3_shownShare_33 : decode cX3_shownShare 33 = .ok (.iload_n 2, 1) := by decide +kernel
theorem dX3_shownShare_34 : decode cX3_shownShare 34 = .ok (.aaload, 1) := by decide +kernel
theorem dX3_shownShare_35 : decode cX3_shownShare 35 = .ok (.getfield 90, 3) := by decide +kernel
theorem dX3_shownShare_38 : decode cX3_shownShare 38 = .ok (.ifnull 6, 3) := by decide +kernel
theorem dX3_shownShare_41 : decode cX3_shownShare 41 = .ok (.iinc 1 1, 3) := by decide +kernel
theorem dX3_shownShare_44 : decode cX3_shownShare 44 = .ok (.iinc 2 1, 3) := by decide +kernel
theorem dX3_shownShare_47 : decode cX3_shownShare 47 = .ok (.goto (-26), 3) := by decide +kernel
theorem dX3_shownShare_50 : decode cX3_shownShare 50 = .ok (.iload_n 1, 1) := by decide +kernel
theorem dX3_shownShare_51 : decode cX3_shownShare 51 = .ok (.i2f, 1) := by decide +kernel
theorem dX3_shownShare_52 : decode cX3_shownShare 52 = .ok (.aload_n 0, 1) := by decide +kernel
theorem dX3_shownShare_53 : decode cX3_shownShare 53 = .ok (.getfield 15, 3) := by decide +kernel
theorem dX3_shownShare_56 : decode cX3_shownShare 56 = .ok (.i2f, 1) := by decide +kernel
theorem dX3_shownShare_57 : decode cX3_shownShare 57 = .ok (.fdiv, 1) := by decide +kernel
theorem dX3_shownShare_58 : decode cX3_shownShare 58 = .ok (.freturn, 1) := by decide +kernel
theorem dX3_meanWear_0 : decode cX3_meanWear 0 = .ok (.aload_n 0, 1) := by decide +kernel
theorem dX3_meanWear_1 : decode cX3_meanWear 1 = .ok (.getfield 15, 3) := by decide +kernel
theorem dX3_meanWear_4 : decode cX3_meanWear 4 = .ok (.ifCond .ne 13, 3) := by decide +kernel
theorem dX3_meanWear_7 : decode cX3_meanWear 7 = .ok (.new 238, 3) := by decide +kernel
theorem dX3_meanWear_10 : decode cX3_meanWear 10 = .ok (.dup, 1) := by decide +kernel
theorem dX3_meanWear_11 : decode cX3_meanWear 11 = .ok (.ldc 240, 2) := by decide +kernel
theorem dX3_meanWear_13 : decode cX3_meanWear 13 = .ok (.invokespecial 242, 3) := by decide +kernel
theorem dX3_meanWear_16 : decode cX3_meanWear 16 = .ok (.athrow, 1) := by decide +kernel
theorem dX3_meanWear_17 : decode cX3_meanWear 17 = .ok (.aload_n 0, 1) := by decide +kernel
theorem dX3_meanWear_18 : decode cX3_meanWear 18 = .ok (.invokevirtual 243, 3) := by decide +kernel
theorem dX3_meanWear_21 : decode cX3_meanWear 21 = .ok (.l2d, 1) := by decide +kernel
theorem dX3_meanWear_22 : decode cX3_meanWear 22 = .ok (.aload_n 0, 1) := by decide +kernel
theorem dX3_meanWear_23 : decode cX3_meanWear 23 = .ok (.getfield 15, 3) := by decide +kernel
theorem dX3_meanWear_26 : decode cX3_meanWear 26 = .ok (.bipush 32, 2) := by decide +kernel
theorem dX3_meanWear_28 : decode cX3_meanWear 28 = .ok (.imul, 1) := by decide +kernel
theorem dX3_meanWear_29 : decode cX3_meanWear 29 = .ok (.i2d, 1) := by decide +kernel
theorem dX3_meanWear_30 : decode cX3_meanWear 30 = .ok (.ddiv, 1) := by decide +kernel
theorem dX3_meanWear_31 : decode cX3_meanWear 31 = .ok (.dreturn, 1) := by decide +kernel
theorem dX3_isSound_0 : decode cX3_isSound 0 = .ok (.iconst 0, 1) := by decide +kernel
theorem dX3_isSound_1 : decode cX3_isSound 1 = .ok (.istore_n 1, 1) := by decide +kernel
theorem dX3_isSound_2 : decode cX3_isSound 2 = .ok (.iload_n 1, 1) := by decide +kernel
theorem dX3_isSound_3 : decode cX3_isSound 3 = .ok (.aload_n 0, 1) := by decide +kernel
theorem dX3_isSound_4 : decode cX3_isSound 4 = .ok (.getfield 15, 3) := by decide +kernel
theorem dX3_isSound_7 : decode cX3_isSound 7 = .ok (.if_icmp .ge 67, 3) := by decide +kernel
theorem dX3_isSound_10 : decode cX3_isSound 10 = .ok (.aload_n 0, 1) := by decide +kernel
theorem dX3_isSound_11 : decode cX3_isSound 11 = .ok (.getfield 11, 3) := by decide +kernel
theorem dX3_isSound_14 : decode cX3_isSound 14 = .ok (.iload_n 1, 1) := by decide +kernel
theorem dX3_isSound_15 : decode cX3_isSound 15 = .ok (.aaload, 1) := by decide +kernel
theorem dX3_isSound_16 : decode cX3_isSound 16 = .ok (.astore_n 2, 1) := by decide +kernel
theorem dX3_isSound_17 : decode cX3_isSound 17 = .ok (.aload_n 2, 1) := by decide +kernel
theorem dX3_isSound_18 : decode cX3_isSound 18 = .ok (.getfield 90, 3) := by decide +kernel
theorem dX3_isSound_21 : decode cX3_isSound 21 = .ok (.ifnull 17, 3) := by decide +kernel
theorem dX3_isSound_24 : decode cX3_isSound 24 = .ok (.aload_n 2, 1) := by decide +kernel
theorem dX3_isSound_25 : decode cX3_isSound 25 = .ok (.getfield 90, 3) := by decide +kernel
theorem dX3_isSound_28 : decode cX3_isSound 28 = .ok (.aload_n 0, 1) := by decide +kernel
theorem dX3_isSound_29 : decode cX3_isSound 29 = .ok (.getfield 41, 3) := by decide +kernel
theorem dX3_isSound_32 : decode cX3_isSound 32 = .ok (.invokevirtual 185, 3) := by decide +kernel
theorem dX3_isSound_35 : decode cX3_isSound 35 = .ok (.ifCond .eq 7, 3) := by decide +kernel
theorem dX3_isSound_38 : decode cX3_isSound 38 = .ok (.iconst 1, 1) := by decide +kernel
theorem dX3_isSound_39 : decode cX3_isSound 39 = .ok (.goto 4, 3) := by decide +kernel
theorem dX3_isSound_42 : decode cX3_isSound 42 = .ok (.iconst 0, 1) := by decide +kernel
theorem dX3_isSound_43 : decode cX3_isSound 43 = .ok (.istore_n 3, 1) := by decide +kernel
theorem dX3_isSound_44 : decode cX3_isSound 44 = .ok (.iload_n 3, 1) := by decide +kernel
theorem dX3_isSound_45 : decode cX3_isSound 45 = .ok (.ifCond .eq 21, 3) := by decide +kernel
theorem dX3_isSound_48 : decode cX3_isSound 48 = .ok (.aload_n 2, 1) := by decide +kernel
theorem dX3_isSound_49 : decode cX3_isSound 49 = .ok (.invokevirtual 247, 3) := by decide +kernel
theorem dX3_isSound_52 : decode cX3_isSound 52 = .ok (.ifCond .eq 14, 3) := by decide +kernel
theorem dX3_isSound_55 : decode cX3_isSound 55 = .ok (.aload_n 2, 1) := by decide +kernel
theorem dX3_isSound_56 : decode cX3_isSound 56 = .ok (.getfield 76, 3) := by decide +kernel
theorem dX3_isSound_59 : decode cX3_isSound 59 = .ok (.aload_n 2, 1) := by decide +kernel
theorem dX3_isSound_60 : decode cX3_isSound 60 = .ok (.invokevirtual 226, 3) := by decide +kernel
theorem dX3_isSound_63 : decode cX3_isSound 63 = .ok (.if_icmp .eq 5, 3) := by decide +kernel
theorem dX3_isSound_66 : decode cX3_isSound 66 = .ok (.iconst 0, 1) := by decide +kernel
theorem dX3_isSound_67 : decode cX3_isSound 67 = .ok (.ireturn, 1) := by decide +kernel
theorem dX3_isSound_68 : decode cX3_isSound 68 = .ok (.iinc 1 1, 3) := by decide +kernel
theorem dX3_isSound_71 : decode cX3_isSound 71 = .ok (.goto (-69), 3) := by decide +kernel
theorem dX3_isSound_74 : decode cX3_isSound 74 = .ok (.iconst 1, 1) := by decide +kernel
theorem dX3_isSound_75 : decode cX3_isSound 75 = .ok (.ireturn, 1) := by decide +kernel
theorem dX3_boardAt_0 : decode cX3_boardAt 0 = .ok (.iload_n 1, 1) := by decide +kernel
theorem dX3_boardAt_1 : decode cX3_boardAt 1 = .ok (.ifCond .lt 11, 3) := by decide +kernel
theorem dX3_boardAt_4 : decode cX3_boardAt 4 = .ok (.iload_n 1, 1) := by decide +kernel
theorem dX3_boardAt_5 : decode cX3_boardAt 5 = .ok (.aload_n 0, 1) := by decide +kernel
theorem dX3_boardAt_6 : decode cX3_boardAt 6 = .ok (.getfield 15, 3) := by decide +kernel
theorem dX3_boardAt_9 : decode cX3_boardAt 9 = .ok (.if_icmp .lt 13, 3) := by decide +kernel
theorem dX3_boardAt_12 : decode cX3_boardAt 12 = .ok (.new 180, 3) := by decide +kernel
theorem dX3_boardAt_15 : decode cX3_boardAt 15 = .ok (.dup, 1) := by decide +kernel
theorem dX3_boardAt_16 : decode cX3_boardAt 16 = .ok (.ldc 251, 2) := by decide +kernel
theorem dX3_boardAt_18 : decode cX3_boardAt 18 = .ok (.invokespecial 184, 3) := by decide +kernel
theorem dX3_boardAt_21 : decode cX3_boardAt 21 = .ok (.athrow, 1) := by decide +kernel
theorem dX3_boardAt_22 : decode cX3_boardAt 22 = .ok (.aload_n 0, 1) := by decide +kernel
theorem dX3_boardAt_23 : decode cX3_boardAt 23 = .ok (.getfield 11, 3) := by decide +kernel
theorem dX3_boardAt_26 : decode cX3_boardAt 26 = .ok (.iload_n 1, 1) := by decide +kernel
theorem dX3_boardAt_27 : decode cX3_boardAt 27 = .ok (.aaload, 1) := by decide +kernel
theorem dX3_boardAt_28 : decode cX3_boardAt 28 = .ok (.areturn, 1) := by decide +kernel
theorem dX3_noticeAt_0 : decode cX3_noticeAt 0 = .ok (.iload_n 1, 1) := by decide +kernel
theorem dX3_noticeAt_1 : decode cX3_noticeAt 1 = .ok (.ifCond .lt 11, 3) := by decide +kernel
theorem dX3_noticeAt_4 : decode cX3_noticeAt 4 = .ok (.iload_n 1, 1) := by decide +kernel
theorem dX3_noticeAt_5 : decode cX3_noticeAt 5 = .ok (.aload_n 0, 1) := by decide +kernel
theorem dX3_noticeAt_6 : decode cX3_noticeAt 6 = .ok (.getfield 28, 3) := by decide +kernel
theorem dX3_noticeAt_9 : decode cX3_noticeAt 9 = .ok (.if_icmp .lt 13, 3) := by decide +kernel
theorem dX3_noticeAt_12 : decode cX3_noticeAt 12 = .ok (.new 180, 3) := by decide +kernel
theorem dX3_noticeAt_15 : decode cX3_noticeAt 15 = .ok (.dup, 1) := by decide +kernel
theorem dX3_noticeAt_16 : decode cX3_noticeAt 16 = .ok (.ldc 253, 2) := by decide +kernel
theorem dX3_noticeAt_18 : decode cX3_noticeAt 18 = .ok (.invokespecial 184, 3) := by decide +kernel
theorem dX3_noticeAt_21 : decode cX3_noticeAt 21 = .ok (.athrow, 1) := by decide +kernel
theorem dX3_noticeAt_22 : decode cX3_noticeAt 22 = .ok (.aload_n 0, 1) := by decide +kernel
theorem dX3_noticeAt_23 : decode cX3_noticeAt 23 = .ok (.getfield 21, 3) := by decide +kernel
theorem dX3_noticeAt_26 : decode cX3_noticeAt 26 = .ok (.iload_n 1, 1) := by decide +kernel
theorem dX3_noticeAt_27 : decode cX3_noticeAt 27 = .ok (.aaload, 1) := by decide +kernel
theorem dX3_noticeAt_28 : decode cX3_noticeAt 28 = .ok (.areturn, 1) := by decide +kernel
theorem dX3_cellAt_0 : decode cX3_cellAt 0 = .ok (.iload_n 0, 1) := by decide +kernel
theorem dX3_cellAt_1 : decode cX3_cellAt 1 = .ok (.ifCond .lt 18, 3) := by decide +kernel
theorem dX3_cellAt_4 : decode cX3_cellAt 4 = .ok (.iload_n 0, 1) := by decide +kernel
theorem dX3_cellAt_5 : decode cX3_cellAt 5 = .ok (.bipush 8, 2) := by decide +kernel
theorem dX3_cellAt_7 : decode cX3_cellAt 7 = .ok (.if_icmp .ge 12, 3) := by decide +kernel
theorem dX3_cellAt_10 : decode cX3_cellAt 10 = .ok (.iload_n 1, 1) := by decide +kernel
theorem dX3_cellAt_11 : decode cX3_cellAt 11 = .ok (.ifCond .lt 8, 3) := by decide +kernel
theorem dX3_cellAt_14 : decode cX3_cellAt 14 = .ok (.iload_n 1, 1) := by decide +kernel
theorem dX3_cellAt_15 : decode cX3_cellAt 15 = .ok (.iconst 4, 1) := by decide +kernel
theorem dX3_cellAt_16 : decode cX3_cellAt 16 = .ok (.if_icmp .lt 13, 3) := by decide +kernel
theorem dX3_cellAt_19 : decode cX3_cellAt 19 = .ok (.new 180, 3) := by decide +kernel
theorem dX3_cellAt_22 : decode cX3_cellAt 22 = .ok (.dup, 1) := by decide +kernel
theorem dX3_cellAt_23 : decode cX3_cellAt 23 = .ok (.ldc 255, 2) := by decide +kernel
theorem dX3_cellAt_25 : decode cX3_cellAt 25 = .ok (.invokespecial 184, 3) := by decide +kernel
theorem dX3_cellAt_28 : decode cX3_cellAt 28 = .ok (.athrow, 1) := by decide +kernel
theorem dX3_cellAt_29 : decode cX3_cellAt 29 = .ok (.bipush 8, 2) := by decide +kernel
theorem dX3_cellAt_31 : decode cX3_cellAt 31 = .ok (.iload_n 1, 1) := by decide +kernel
theorem dX3_cellAt_32 : decode cX3_cellAt 32 = .ok (.imul, 1) := by decide +kernel
theorem dX3_cellAt_33 : decode cX3_cellAt 33 = .ok (.iload_n 0, 1) := by decide +kernel
theorem dX3_cellAt_34 : decode cX3_cellAt 34 = .ok (.iadd, 1) := by decide +kernel
theorem dX3_cellAt_35 : decode cX3_cellAt 35 = .ok (.ireturn, 1) := by decide +kernel
theorem dX3_bitOf_0 : decode cX3_bitOf 0 = .ok (.iload_n 0, 1) := by decide +kernel
theorem dX3_bitOf_1 : decode cX3_bitOf 1 = .ok (.iload_n 1, 1) := by decide +kernel
theorem dX3_bitOf_2 : decode cX3_bitOf 2 = .ok (.iushr, 1) := by decide +kernel
theorem dX3_bitOf_3 : decode cX3_bitOf 3 = .ok (.iconst 1, 1) := by decide +kernel
theorem dX3_bitOf_4 : decode cX3_bitOf 4 = .ok (.iand, 1) := by decide +kernel
theorem dX3_bitOf_5 : decode cX3_bitOf 5 = .ok (.ireturn, 1) := by decide +kernel
theorem dX3_checkDistrict_0 : decode cX3_checkDistrict 0 = .ok (.iload_n 0, 1) := by decide +kernel
theorem dX3_checkDistrict_1 : decode cX3_checkDistrict 1 = .ok (.ifCond .lt 8, 3) := by decide +kernel
theorem dX3_checkDistrict_4 : decode cX3_checkDistrict 4 = .ok (.iload_n 0, 1) := by decide +kernel
theorem dX3_checkDistrict_5 : decode cX3_checkDistrict 5 = .ok (.iconst 4, 1) := by decide +kernel
theorem dX3_checkDistrict_6 : decode cX3_checkDistrict 6 = .ok (.if_icmp .lt 14, 3) := by decide +kernel
theorem dX3_checkDistrict_9 : decode cX3_checkDistrict 9 = .ok (.new 51, 3) := by decide +kernel
theorem dX3_checkDistrict_12 : decode cX3_checkDistrict 12 = .ok (.dup, 1) := by decide +kernel
theorem dX3_checkDistrict_13 : decode cX3_checkDistrict 13 = .ok (.ldc_w 257, 3) := by decide +kernel
theorem dX3_checkDistrict_16 : decode cX3_checkDistrict 16 = .ok (.invokespecial 55, 3) := by decide +kernel
theorem dX3_checkDistrict_19 : decode cX3_checkDistrict 19 = .ok (.athrow, 1) := by decide +kernel
theorem dX3_checkDistrict_20 : decode cX3_checkDistrict 20 = .ok (.return_, 1) := by decide +kernel
theorem dX3_checkRumour_0 : decode cX3_checkRumour 0 = .ok (.iload_n 1, 1) := by decide +kernel
theorem dX3_checkRumour_1 : decode cX3_checkRumour 1 = .ok (.invokestatic 48, 3) := by decide +kernel
theorem dX3_checkRumour_4 : decode cX3_checkRumour 4 = .ok (.iload_n 0, 1) := by decide +kernel
theorem dX3_checkRumour_5 : decode cX3_checkRumour 5 = .ok (.ifCond .ne 14, 3) := by decide +kernel
theorem dX3_checkRumour_8 : decode cX3_checkRumour 8 = .ok (.new 51, 3) := by decide +kernel
theorem dX3_checkRumour_11 : decode cX3_checkRumour 11 = .ok (.dup, 1) := by decide +kernel
theorem dX3_checkRumour_12 : decode cX3_checkRumour 12 = .ok (.ldc_w 259, 3) := by decide +kernel
theorem dX3_checkRumour_15 : decode cX3_checkRumour 15 = .ok (.invokespecial 55, 3) := by decide +kernel
theorem dX3_checkRumour_18 : decode cX3_checkRumour 18 = .ok (.athrow, 1) := by decide +kernel
theorem dX3_checkRumour_19 : decode cX3_checkRumour 19 = .ok (.return_, 1) := by decide +kernel
theorem dX3_take_0 : decode cX3_take 0 = .ok (.aload_n 0, 1) := by decide +kernel
theorem dX3_take_1 : decode cX3_take 1 = .ok (.getfield 28, 3) := by decide +kernel
theorem dX3_take_4 : decode cX3_take 4 = .ok (.bipush 40, 2) := by decide +kernel
theorem dX3_take_6 : decode cX3_take 6 = .ok (.if_icmp .lt 14, 3) := by decide +kernel
theorem dX3_take_9 : decode cX3_take 9 = .ok (.new 58, 3) := by decide +kernel
theorem dX3_take_12 : decode cX3_take 12 = .ok (.dup, 1) := by decide +kernel
theorem dX3_take_13 : decode cX3_take 13 = .ok (.ldc_w 261, 3) := by decide +kernel
theorem dX3_take_16 : decode cX3_take 16 = .ok (.invokespecial 62, 3) := by decide +kernel
theorem dX3_take_19 : decode cX3_take 19 = .ok (.athrow, 1) := by decide +kernel
theorem dX3_take_20 : decode cX3_take 20 = .ok (.aload_n 0, 1) := by decide +kernel
theorem dX3_take_21 : decode cX3_take 21 = .ok (.getfield 21, 3) := by decide +kernel
theorem dX3_take_24 : decode cX3_take 24 = .ok (.aload_n 0, 1) := by decide +kernel
theorem dX3_take_25 : decode cX3_take 25 = .ok (.getfield 28, 3) := by decide +kernel
theorem dX3_take_28 : decode cX3_take 28 = .ok (.aaload, 1) := by decide +kernel
theorem dX3_take_29 : decode cX3_take 29 = .ok (.astore 5, 2) := by decide +kernel
theorem dX3_take_31 : decode cX3_take 31 = .ok (.aload 5, 2) := by decide +kernel
theorem dX3_take_33 : decode cX3_take 33 = .ok (.iload_n 1, 1) := by decide +kernel
theorem dX3_take_34 : decode cX3_take 34 = .ok (.iload_n 2, 1) := by decide +kernel
theorem dX3_take_35 : decode cX3_take 35 = .ok (.iload_n 3, 1) := by decide +kernel
theorem dX3_take_36 : decode cX3_take 36 = .ok (.iload 4, 2) := by decide +kernel
theorem dX3_take_38 : decode cX3_take 38 = .ok (.invokevirtual 263, 3) := by decide +kernel
theorem dX3_take_41 : decode cX3_take 41 = .ok (.aload_n 0, 1) := by decide +kernel
theorem dX3_take_42 : decode cX3_take 42 = .ok (.getfield 28, 3) := by decide +kernel
theorem dX3_take_45 : decode cX3_take 45 = .ok (.istore 6, 2) := by decide +kernel
theorem dX3_take_47 : decode cX3_take 47 = .ok (.iload 6, 2) := by decide +kernel
theorem dX3_take_49 : decode cX3_take 49 = .ok (.ifCond .le 41, 3) := by decide +kernel
theorem dX3_take_52 : decode cX3_take 52 = .ok (.aload_n 0, 1) := by decide +kernel
theorem dX3_take_53 : decode cX3_take 53 = .ok (.getfield 25, 3) := by decide +kernel
theorem dX3_take_56 : decode cX3_take 56 = .ok (.iload 6, 2) := by decide +kernel
theorem dX3_take_58 : decode cX3_take 58 = .ok (.iconst 1, 1) := by decide +kernel
theorem dX3_take_59 : decode cX3_take 59 = .ok (.isub, 1) := by decide +kernel
theorem dX3_take_60 : decode cX3_take 60 = .ok (.aaload, 1) := by decide +kernel
theorem dX3_take_61 : decode cX3_take 61 = .ok (.getfield 158, 3) := by decide +kernel
theorem dX3_take_64 : decode cX3_take 64 = .ok (.iload_n 1, 1) := by decide +kernel
theorem dX3_take_65 : decode cX3_take 65 = .ok (.if_icmp .ge 25, 3) := by decide +kernel
theorem dX3_take_68 : decode cX3_take 68 = .ok (.aload_n 0, 1) := by decide +kernel
theorem dX3_take_69 : decode cX3_take 69 = .ok (.getfield 25, 3) := by decide +kernel
theorem dX3_take_72 : decode cX3_take 72 = .ok (.iload 6, 2) := by decide +kernel
theorem dX3_take_74 : decode cX3_take 74 = .ok (.aload_n 0, 1) := by decide +kernel
theorem dX3_take_75 : decode cX3_take 75 = .ok (.getfield 25, 3) := by decide +kernel
theorem dX3_take_78 : decode cX3_take 78 = .ok (.iload 6, 2) := by decide +kernel
theorem dX3_take_80 : decode cX3_take 80 = .ok (.iconst 1, 1) := by decide +kernel
theorem dX3_take_81 : decode cX3_take 81 = .ok (.isub, 1) := by decide +kernel
theorem dX3_take_82 : decode cX3_take 82 = .ok (.aaload, 1) := by decide +kernel
theorem dX3_take_83 : decode cX3_take 83 = .ok (.aastore, 1) := by decide +kernel
theorem dX3_take_84 : decode cX3_take 84 = .ok (.iinc 6 (-1), 3) := by decide +kernel
theorem dX3_take_87 : decode cX3_take 87 = .ok (.goto (-40), 3) := by decide +kernel
theorem dX3_take_90 : decode cX3_take 90 = .ok (.aload_n 0, 1) := by decide +kernel
theorem dX3_take_91 : decode cX3_take 91 = .ok (.getfield 25, 3) := by decide +kernel
theorem dX3_take_94 : decode cX3_take 94 = .ok (.iload 6, 2) := by decide +kernel
theorem dX3_take_96 : decode cX3_take 96 = .ok (.aload 5, 2) := by decide +kernel
theorem dX3_take_98 : decode cX3_take 98 = .ok (.aastore, 1) := by decide +kernel
theorem dX3_take_99 : decode cX3_take 99 = .ok (.aload_n 0, 1) := by decide +kernel
theorem dX3_take_100 : decode cX3_take 100 = .ok (.dup, 1) := by decide +kernel
theorem dX3_take_101 : decode cX3_take 101 = .ok (.getfield 28, 3) := by decide +kernel
theorem dX3_take_104 : decode cX3_take 104 = .ok (.iconst 1, 1) := by decide +kernel
theorem dX3_take_105 : decode cX3_take 105 = .ok (.iadd, 1) := by decide +kernel
theorem dX3_take_106 : decode cX3_take 106 = .ok (.putfield 28, 3) := by decide +kernel
theorem dX3_take_109 : decode cX3_take 109 = .ok (.aload 5, 2) := by decide +kernel
theorem dX3_take_111 : decode cX3_take 111 = .ok (.areturn, 1) := by decide +kernel
theorem dX3_queueWhereRead_0 : decode cX3_queueWhereRead 0 = .ok (.iconst 0, 1) := by decide +kernel
theorem dX3_queueWhereRead_1 : decode cX3_queueWhereRead 1 = .ok (.istore_n 3, 1) := by decide +kernel
theorem dX3_queueWhereRead_2 : decode cX3_queueWhereRead 2 = .ok (.iload_n 3, 1) := by decide +kernel
theorem dX3_queueWhereRead_3 : decode cX3_queueWhereRead 3 = .ok (.iconst 4, 1) := by decide +kernel
theorem dX3_queueWhereRead_4 : decode cX3_queueWhereRead 4 = .ok (.if_icmp .ge 35, 3) := by decide +kernel
theorem dX3_queueWhereRead_7 : decode cX3_queueWhereRead 7 = .ok (.aload_n 2, 1) := by decide +kernel
theorem dX3_queueWhereRead_8 : decode cX3_queueWhereRead 8 = .ok (.iload_n 3, 1) := by decide +kernel
theorem dX3_queueWhereRead_9 : decode cX3_queueWhereRead 9 = .ok (.aload_n 0, 1) := by decide +kernel
theorem dX3_queueWhereRead_10 : decode cX3_queueWhereRead 10 = .ok (.getfield 41, 3) := by decide +kernel
theorem dX3_queueWhereRead_13 : decode cX3_queueWhereRead 13 = .ok (.invokevirtual 129, 3) := by decide +kernel
theorem dX3_queueWhereRead_16 : decode cX3_queueWhereRead 16 = .ok (.ifCond .eq 17, 3) := by decide +kernel
theorem dX3_queueWhereRead_19 : decode cX3_queueWhereRead 19 = .ok (.aload_n 0, 1) := by decide +kernel
theorem dX3_queueWhereRead_20 : decode cX3_queueWhereRead 20 = .ok (.aload_n 2, 1) := by decide +kernel
theorem dX3_queueWhereRead_21 : decode cX3_queueWhereRead 21 = .ok (.iload_n 3, 1) := by decide +kernel
theorem dX3_queueWhereRead_22 : decode cX3_queueWhereRead 22 = .ok (.invokevirtual 198, 3) := by decide +kernel
theorem dX3_queueWhereRead_25 : decode cX3_queueWhereRead 25 = .ok (.ifCond .le 8, 3) := by decide +kernel
theorem dX3_queueWhereRead_28 : decode cX3_queueWhereRead 28 = .ok (.aload_n 1, 1) := by decide +kernel
theorem dX3_queueWhereRead_29 : decode cX3_queueWhereRead 29 = .ok (.iload_n 3, 1) := by decide +kernel
theorem dX3_queueWhereRead_30 : decode cX3_queueWhereRead 30 = .ok (.invokevirtual 133, 3) := by decide +kernel
theorem dX3_queueWhereRead_33 : decode cX3_queueWhereRead 33 = .ok (.iinc 3 1, 3) := by decide +kernel
theorem dX3_queueWhereRead_36 : decode cX3_queueWhereRead 36 = .ok (.goto (-34), 3) := by decide +kernel
theorem dX3_queueWhereRead_39 : decode cX3_queueWhereRead 39 = .ok (.return_, 1) := by decide +kernel
theorem dX3_boardsThatShow_0 : decode cX3_boardsThatShow 0 = .ok (.iconst 0, 1) := by decide +kernel
theorem dX3_boardsThatShow_1 : decode cX3_boardsThatShow 1 = .ok (.istore_n 2, 1) := by decide +kernel
theorem dX3_boardsThatShow_2 : decode cX3_boardsThatShow 2 = .ok (.iconst 0, 1) := by decide +kernel
theorem dX3_boardsThatShow_3 : decode cX3_boardsThatShow 3 = .ok (.istore_n 3, 1) := by decide +kernel
theorem dX3_boardsThatShow_4 : decode cX3_boardsThatShow 4 = .ok (.iload_n 3, 1) := by decide +kernel
theorem dX3_boardsThatShow_5 : decode cX3_boardsThatShow 5 = .ok (.aload_n 0, 1) := by decide +kernel
theorem dX3_boardsThatShow_6 : decode cX3_boardsThatShow 6 = .ok (.getfield 15, 3) := by decide +kernel
theorem dX3_boardsThatShow_9 : decode cX3_boardsThatShow 9 = .ok (.if_icmp .ge 25, 3) := by decide +kernel
theorem dX3_boardsThatShow_12 : decode cX3_boardsThatShow 12 = .ok (.aload_n 0, 1) := by decide +kernel
theorem dX3_boardsThatShow_13 : decode cX3_boardsThatShow 13 = .ok (.getfield 11, 3) := by decide +kernel
theorem dX3_boardsThatShow_16 : decode cX3_boardsThatShow 16 = .ok (.iload_n 3, 1) := by decide +kernel
theorem dX3_boardsThatShow_17 : decode cX3_boardsThatShow 17 = .ok (.aaload, 1) := by decide +kernel
theorem dX3_boardsThatShow_18 : decode cX3_boardsThatShow 18 = .ok (.getfield 90, 3) := by decide +kernel
theorem dX3_boardsThatShow_21 : decode cX3_boardsThatShow 21 = .ok (.aload_n 1, 1) := by decide +kernel
theorem dX3_boardsThatShow_22 : decode cX3_boardsThatShow 22 = .ok (.if_acmp .ne 6, 3) := by decide +kernel
theorem dX3_boardsThatShow_25 : decode cX3_boardsThatShow 25 = .ok (.iinc 2 1, 3) := by decide +kernel
theorem dX3_boardsThatShow_28 : decode cX3_boardsThatShow 28 = .ok (.iinc 3 1, 3) := by decide +kernel
theorem dX3_boardsThatShow_31 : decode cX3_boardsThatShow 31 = .ok (.goto (-27), 3) := by decide +kernel
theorem dX3_boardsThatShow_34 : decode cX3_boardsThatShow 34 = .ok (.iload_n 2, 1) := by decide +kernel
theorem dX3_boardsThatShow_35 : decode cX3_boardsThatShow 35 = .ok (.ireturn, 1) := by decide +kernel
theorem dX3_readersIn_0 : decode cX3_readersIn 0 = .ok (.iconst 0, 1) := by decide +kernel
theorem dX3_readersIn_1 : decode cX3_readersIn 1 = .ok (.istore_n 3, 1) := by decide +kernel
theorem dX3_readersIn_2 : decode cX3_readersIn 2 = .ok (.iconst 0, 1) := by decide +kernel
theorem dX3_readersIn_3 : decode cX3_readersIn 3 = .ok (.istore 4, 2) := by decide +kernel
theorem dX3_readersIn_5 : decode cX3_readersIn 5 = .ok (.iload 4, 2) := by decide +kernel
theorem dX3_readersIn_7 : decode cX3_readersIn 7 = .ok (.aload_n 0, 1) := by decide +kernel
theorem dX3_readersIn_8 : decode cX3_readersIn 8 = .ok (.getfield 15, 3) := by decide +kernel
theorem dX3_readersIn_11 : decode cX3_readersIn 11 = .ok (.if_icmp .ge 33, 3) := by decide +kernel
theorem dX3_readersIn_14 : decode cX3_readersIn 14 = .ok (.aload_n 0, 1) := by decide +kernel
theorem dX3_readersIn_15 : decode cX3_readersIn 15 = .ok (.getfield 11, 3) := by decide +kernel
theorem dX3_readersIn_18 : decode cX3_readersIn 18 = .ok (.iload 4, 2) := by decide +kernel
theorem dX3_readersIn_20 : decode cX3_readersIn 20 = .ok (.aaload, 1) := by decide +kernel
theorem dX3_readersIn_21 : decode cX3_readersIn 21 = .ok (.getfield 267, 3) := by decide +kernel
theorem dX3_readersIn_24 : decode cX3_readersIn 24 = .ok (.iload_n 2, 1) := by decide +kernel
theorem dX3_readersIn_25 : decode cX3_readersIn 25 = .ok (.if_icmp .ne 13, 3) := by decide +kernel
theorem dX3_readersIn_28 : decode cX3_readersIn 28 = .ok (.iload_n 3, 1) := by decide +kernel
theorem dX3_readersIn_29 : decode cX3_readersIn 29 = .ok (.aload_n 1, 1) := by decide +kernel
theorem dX3_readersIn_30 : decode cX3_readersIn 30 = .ok (.getfield 190, 3) := by decide +kernel
theorem dX3_readersIn_33 : decode cX3_readersIn 33 = .ok (.iload 4, 2) := by decide +kernel
theorem dX3_readersIn_35 : decode cX3_readersIn 35 = .ok (.iaload, 1) := by decide +kernel
theorem dX3_readersIn_36 : decode cX3_readersIn 36 = .ok (.iadd, 1) := by decide +kernel
theorem dX3_readersIn_37 : decode cX3_readersIn 37 = .ok (.istore_n 3, 1) := by decide +kernel
theorem dX3_readersIn_38 : decode cX3_readersIn 38 = .ok (.iinc 4 1, 3) := by decide +kernel
theorem dX3_readersIn_41 : decode cX3_readersIn 41 = .ok (.goto (-36), 3) := by decide +kernel
theorem dX3_readersIn_44 : decode cX3_readersIn 44 = .ok (.iload_n 3, 1) := by decide +kernel
theorem dX3_readersIn_45 : decode cX3_readersIn 45 = .ok (.ireturn, 1) := by decide +kernel
theorem dX3_isSuspect_0 : decode cX3_isSuspect 0 = .ok (.aload_n 0, 1) := by decide +kernel
theorem dX3_isSuspect_1 : decode cX3_isSuspect 1 = .ok (.aload_n 1, 1) := by decide +kernel
theorem dX3_isSuspect_2 : decode cX3_isSuspect 2 = .ok (.iload_n 3, 1) := by decide +kernel
theorem dX3_isSuspect_3 : decode cX3_isSuspect 3 = .ok (.invokevirtual 198, 3) := by decide +kernel
theorem dX3_isSuspect_6 : decode cX3_isSuspect 6 = .ok (.ifCond .le 15, 3) := by decide +kernel
theorem dX3_isSuspect_9 : decode cX3_isSuspect 9 = .ok (.aload_n 1, 1) := by decide +kernel
theorem dX3_isSuspect_10 : decode cX3_isSuspect 10 = .ok (.iload_n 2, 1) := by decide +kernel
theorem dX3_isSuspect_11 : decode cX3_isSuspect 11 = .ok (.invokevirtual 270, 3) := by decide +kernel
theorem dX3_isSuspect_14 : decode cX3_isSuspect 14 = .ok (.ifCond .eq 7, 3) := by decide +kernel
theorem dX3_isSuspect_17 : decode cX3_isSuspect 17 = .ok (.iconst 1, 1) := by decide +kernel
theorem dX3_isSuspect_18 : decode cX3_isSuspect 18 = .ok (.goto 4, 3) := by decide +kernel
theorem dX3_isSuspect_21 : decode cX3_isSuspect 21 = .ok (.iconst 0, 1) := by decide +kernel
theorem dX3_isSuspect_22 : decode cX3_isSuspect 22 = .ok (.ireturn, 1) := by decide +kernel
theorem dX3_suspectsAhead_0 : decode cX3_suspectsAhead 0 = .ok (.aload_n 0, 1) := by decide +kernel
theorem dX3_suspectsAhead_1 : decode cX3_suspectsAhead 1 = .ok (.aload_n 1, 1) := by decide +kernel
theorem dX3_suspectsAhead_2 : decode cX3_suspectsAhead 2 = .ok (.iload_n 3, 1) := by decide +kernel
theorem dX3_suspectsAhead_3 : decode cX3_suspectsAhead 3 = .ok (.invokevirtual 198, 3) := by decide +kernel
theorem dX3_suspectsAhead_6 : decode cX3_suspectsAhead 6 = .ok (.istore 4, 2) := by decide +kernel
theorem dX3_suspectsAhead_8 : decode cX3_suspectsAhead 8 = .ok (.iconst 0, 1) := by decide +kernel
theorem dX3_suspectsAhead_9 : decode cX3_suspectsAhead 9 = .ok (.istore 5, 2) := by decide +kernel
theorem dX3_suspectsAhead_11 : decode cX3_suspectsAhead 11 = .ok (.iconst 0, 1) := by decide +kernel
theorem dX3_suspectsAhead_12 : decode cX3_suspectsAhead 12 = .ok (.istore 6, 2) := by decide +kernel
theorem dX3_suspectsAhead_14 : decode cX3_suspectsAhead 14 = .ok (.iload 6, 2) := by decide +kernel
theorem dX3_suspectsAhead_16 : decode cX3_suspectsAhead 16 = .ok (.aload_n 0, 1) := by decide +kernel
theorem dX3_suspectsAhead_17 : decode cX3_suspectsAhead 17 = .ok (.getfield 28, 3) := by decide +kernel
theorem dX3_suspectsAhead_20 : decode cX3_suspectsAhead 20 = .ok (.if_icmp .ge 77, 3) := by decide +kernel
theorem dX3_suspectsAhead_23 : decode cX3_suspectsAhead 23 = .ok (.aload_n 0, 1) := by decide +kernel
theorem dX3_suspectsAhead_24 : decode cX3_suspectsAhead 24 = .ok (.aload_n 0, 1) := by decide +kernel
theorem dX3_suspectsAhead_25 : decode cX3_suspectsAhead 25 = .ok (.getfield 21, 3) := by decide +kernel
theorem dX3_suspectsAhead_28 : decode cX3_suspectsAhead 28 = .ok (.iload 6, 2) := by decide +kernel
theorem dX3_suspectsAhead_30 : decode cX3_suspectsAhead 30 = .ok (.aaload, 1) := by decide +kernel
theorem dX3_suspectsAhead_31 : decode cX3_suspectsAhead 31 = .ok (.iload_n 3, 1) := by decide +kernel
theorem dX3_suspectsAhead_32 : decode cX3_suspectsAhead 32 = .ok (.invokevirtual 198, 3) := by decide +kernel
theorem dX3_suspectsAhead_35 : decode cX3_suspectsAhead 35 = .ok (.istore 7, 2) := by decide +kernel
theorem dX3_suspectsAhead_37 : decode cX3_suspectsAhead 37 = .ok (.iload 7, 2) := by decide +kernel
theorem dX3_suspectsAhead_39 : decode cX3_suspectsAhead 39 = .ok (.iload 4, 2) := by decide +kernel
theorem dX3_suspectsAhead_41 : decode cX3_suspectsAhead 41 = .ok (.if_icmp .gt 19, 3) := by decide +kernel
theorem dX3_suspectsAhead_44 : decode cX3_suspectsAhead 44 = .ok (.iload 7, 2) := by decide +kernel
theorem dX3_suspectsAhead_46 : decode cX3_suspectsAhead 46 = .ok (.iload 4, 2) := by decide +kernel
theorem dX3_suspectsAhead_48 : decode cX3_suspectsAhead 48 = .ok (.if_icmp .ne 16, 3) := by decide +kernel
theorem dX3_suspectsAhead_51 : decode cX3_suspectsAhead 51 = .ok (.iload 6, 2) := by decide +kernel
theorem dX3_suspectsAhead_53 : decode cX3_suspectsAhead 53 = .ok (.aload_n 1, 1) := by decide +kernel
theorem dX3_suspectsAhead_54 : decode cX3_suspectsAhead 54 = .ok (.getfield 94, 3) := by decide +kernel
theorem dX3_suspectsAhead_57 : decode cX3_suspectsAhead 57 = .ok (.if_icmp .ge 7, 3) := by decide +kernel
theorem dX3_suspectsAhead_60 : decode cX3_suspectsAhead 60 = .ok (.iconst 1, 1) := by decide +kernel
theorem dX3_suspectsAhead_61 : decode cX3_suspectsAhead 61 = .ok (.goto 4, 3) := by decide +kernel
theorem dX3_suspectsAhead_64 : decode cX3_suspectsAhead 64 = .ok (.iconst 0, 1) := by decide +kernel
theorem dX3_suspectsAhead_65 : decode cX3_suspectsAhead 65 = .ok (.istore 8, 2) := by decide +kernel
theorem dX3_suspectsAhead_67 : decode cX3_suspectsAhead 67 = .ok (.iload 8, 2) := by decide +kernel
theorem dX3_suspectsAhead_69 : decode cX3_suspectsAhead 69 = .ok (.ifCond .eq 22, 3) := by decide +kernel
theorem dX3_suspectsAhead_72 : decode cX3_suspectsAhead 72 = .ok (.aload_n 0, 1) := by decide +kernel
theorem dX3_suspectsAhead_73 : decode cX3_suspectsAhead 73 = .ok (.aload_n 0, 1) := by decide +kernel
theorem dX3_suspectsAhead_74 : decode cX3_suspectsAhead 74 = .ok (.getfield 21, 3) := by decide +kernel
theorem dX3_suspectsAhead_77 : decode cX3_suspectsAhead 77 = .ok (.iload 6, 2) := by decide +kernel
theorem dX3_suspectsAhead_79 : decode cX3_suspectsAhead 79 = .ok (.aaload, 1) := by decide +kernel
theorem dX3_suspectsAhead_80 : decode cX3_suspectsAhead 80 = .ok (.iload_n 2, 1) := by decide +kernel
theorem dX3_suspectsAhead_81 : decode cX3_suspectsAhead 81 = .ok (.iload_n 3, 1) := by decide +kernel
theorem dX3_suspectsAhead_82 : decode cX3_suspectsAhead 82 = .ok (.invokevirtual 208, 3) := by decide +kernel
theorem dX3_suspectsAhead_85 : decode cX3_suspectsAhead 85 = .ok (.ifCond .eq 6, 3) := by decide +kernel
theorem dX3_suspectsAhead_88 : decode cX3_suspectsAhead 88 = .ok (.iinc 5 1, 3) := by decide +kernel
theorem dX3_suspectsAhead_91 : decode cX3_suspectsAhead 91 = .ok (.iinc 6 1, 3) := by decide +kernel
theorem dX3_suspectsAhead_94 : decode cX3_suspectsAhead 94 = .ok (.goto (-80), 3) := by decide +kernel
theorem dX3_suspectsAhead_97 : decode cX3_suspectsAhead 97 = .ok (.iload 5, 2) := by decide +kernel
theorem dX3_suspectsAhead_99 : decode cX3_suspectsAhead 99 = .ok (.ireturn, 1) := by decide +kernel
theorem dX3_letHourComeTo_0 : decode cX3_letHourComeTo 0 = .ok (.aload_n 1, 1) := by decide +kernel
theorem dX3_letHourComeTo_1 : decode cX3_letHourComeTo 1 = .ok (.aload_n 0, 1) := by decide +kernel
theorem dX3_letHourComeTo_2 : decode cX3_letHourComeTo 2 = .ok (.getfield 38, 3) := by decide +kernel
theorem dX3_letHourComeTo_5 : decode cX3_letHourComeTo 5 = .ok (.invokevirtual 273, 3) := by decide +kernel
theorem dX3_letHourComeTo_8 : decode cX3_letHourComeTo 8 = .ok (.aload_n 1, 1) := by decide +kernel
theorem dX3_letHourComeTo_9 : decode cX3_letHourComeTo 9 = .ok (.iconst 0, 1) := by decide +kernel
theorem dX3_letHourComeTo_10 : decode cX3_letHourComeTo 10 = .ok (.putfield 100, 3) := by decide +kernel
theorem dX3_letHourComeTo_13 : decode cX3_letHourComeTo 13 = .ok (.aload_n 1, 1) := by decide +kernel
theorem dX3_letHourComeTo_14 : decode cX3_letHourComeTo 14 = .ok (.getfield 90, 3) := by decide +kernel
theorem dX3_letHourComeTo_17 : decode cX3_letHourComeTo 17 = .ok (.ifnull 21, 3) := by decide +kernel
theorem dX3_letHourComeTo_20 : decode cX3_letHourComeTo 20 = .ok (.aload_n 1, 1) := by decide +kernel
theorem dX3_letHourComeTo_21 : decode cX3_letHourComeTo 21 = .ok (.getfield 90, 3) := by decide +kernel
theorem dX3_letHourComeTo_24 : decode cX3_letHourComeTo 24 = .ok (.aload_n 0, 1) := by decide +kernel
theorem dX3_letHourComeTo_25 : decode cX3_letHourComeTo 25 = .ok (.getfield 41, 3) := by decide +kernel
theorem dX3_letHourComeTo_28 : decode cX3_letHourComeTo 28 = .ok (.invokevirtual 185, 3) := by decide +kernel
theorem dX3_letHourComeTo_31 : decode cX3_letHourComeTo 31 = .ok (.ifCond .ne 7, 3) := by decide +kernel
theorem dX3_letHourComeTo_34 : decode cX3_letHourComeTo 34 = .ok (.aload_n 1, 1) := by decide +kernel
theorem dX3_letHourComeTo_35 : decode cX3_letHourComeTo 35 = .ok (.invokevirtual 276, 3) := by decide +kernel
theorem dX3_letHourComeTo_38 : decode cX3_letHourComeTo 38 = .ok (.iconst 0, 1) := by decide +kernel
theorem dX3_letHourComeTo_39 : decode cX3_letHourComeTo 39 = .ok (.istore_n 2, 1) := by decide +kernel
theorem dX3_letHourComeTo_40 : decode cX3_letHourComeTo 40 = .ok (.iload_n 2, 1) := by decide +kernel
theorem dX3_letHourComeTo_41 : decode cX3_letHourComeTo 41 = .ok (.aload_n 0, 1) := by decide +kernel
theorem dX3_letHourComeTo_42 : decode cX3_letHourComeTo 42 = .ok (.getfield 28, 3) := by decide +kernel
theorem dX3_letHourComeTo_45 : decode cX3_letHourComeTo 45 = .ok (.if_icmp .ge 56, 3) := by decide +kernel
theorem dX3_letHourComeTo_48 : decode cX3_letHourComeTo 48 = .ok (.aload_n 0, 1) := by decide +kernel
theorem dX3_letHourComeTo_49 : decode cX3_letHourComeTo 49 = .ok (.getfield 25, 3) := by decide +kernel
theorem dX3_letHourComeTo_52 : decode cX3_letHourComeTo 52 = .ok (.iload_n 2, 1) := by decide +kernel
theorem dX3_letHourComeTo_53 : decode cX3_letHourComeTo 53 = .ok (.aaload, 1) := by decide +kernel
theorem dX3_letHourComeTo_54 : decode cX3_letHourComeTo 54 = .ok (.astore_n 3, 1) := by decide +kernel
theorem dX3_letHourComeTo_55 : decode cX3_letHourComeTo 55 = .ok (.aload_n 3, 1) := by decide +kernel
theorem dX3_letHourComeTo_56 : decode cX3_letHourComeTo 56 = .ok (.aload_n 0, 1) := by decide +kernel
theorem dX3_letHourComeTo_57 : decode cX3_letHourComeTo 57 = .ok (.getfield 41, 3) := by decide +kernel
theorem dX3_letHourComeTo_60 : decode cX3_letHourComeTo 60 = .ok (.invokevirtual 185, 3) := by decide +kernel
theorem dX3_letHourComeTo_63 : decode cX3_letHourComeTo 63 = .ok (.ifCond .eq 32, 3) := by decide +kernel
theorem dX3_letHourComeTo_66 : decode cX3_letHourComeTo 66 = .ok (.aload_n 3, 1) := by decide +kernel
theorem dX3_letHourComeTo_67 : decode cX3_letHourComeTo 67 = .ok (.aload_n 1, 1) := by decide +kernel
theorem dX3_letHourComeTo_68 : decode cX3_letHourComeTo 68 = .ok (.getfield 267, 3) := by decide +kernel
theorem dX3_letHourComeTo_71 : decode cX3_letHourComeTo 71 = .ok (.aload_n 0, 1) := by decide +kernel
theorem dX3_letHourComeTo_72 : decode cX3_letHourComeTo 72 = .ok (.getfield 41, 3) := by decide +kernel
theorem dX3_letHourComeTo_75 : decode cX3_letHourComeTo 75 = .ok (.invokevirtual 129, 3) := by decide +kernel
theorem dX3_letHourComeTo_78 : decode cX3_letHourComeTo 78 = .ok (.ifCond .eq 17, 3) := by decide +kernel
theorem dX3_letHourComeTo_81 : decode cX3_letHourComeTo 81 = .ok (.aload_n 1, 1) := by decide +kernel
theorem dX3_letHourComeTo_82 : decode cX3_letHourComeTo 82 = .ok (.aload_n 3, 1) := by decide +kernel
theorem dX3_letHourComeTo_83 : decode cX3_letHourComeTo 83 = .ok (.invokevirtual 279, 3) := by decide +kernel
theorem dX3_letHourComeTo_86 : decode cX3_letHourComeTo 86 = .ok (.ifCond .eq 4, 3) := by decide +kernel
theorem dX3_letHourComeTo_89 : decode cX3_letHourComeTo 89 = .ok (.return_, 1) := by decide +kernel
theorem dX3_letHourComeTo_90 : decode cX3_letHourComeTo 90 = .ok (.aload_n 1, 1) := by decide +kernel
theorem dX3_letHourComeTo_91 : decode cX3_letHourComeTo 91 = .ok (.iconst 1, 1) := by decide +kernel
theorem dX3_letHourComeTo_92 : decode cX3_letHourComeTo 92 = .ok (.putfield 100, 3) := by decide +kernel
theorem dX3_letHourComeTo_95 : decode cX3_letHourComeTo 95 = .ok (.iinc 2 1, 3) := by decide +kernel
theorem dX3_letHourComeTo_98 : decode cX3_letHourComeTo 98 = .ok (.goto (-58), 3) := by decide +kernel
theorem dX3_letHourComeTo_101 : decode cX3_letHourComeTo 101 = .ok (.aload_n 1, 1) := by decide +kernel
theorem dX3_letHourComeTo_102 : decode cX3_letHourComeTo 102 = .ok (.invokevirtual 276, 3) := by decide +kernel
theorem dX3_letHourComeTo_105 : decode cX3_letHourComeTo 105 = .ok (.return_, 1) := by decide +kernel
theorem dX3_shifted_0 : decode cX3_shifted 0 = .ok (.sipush 255, 3) := by decide +kernel
theorem dX3_shifted_3 : decode cX3_shifted 3 = .ok (.iload_n 1, 1) := by decide +kernel
theorem dX3_shifted_4 : decode cX3_shifted 4 = .ok (.ishl, 1) := by decide +kernel
theorem dX3_shifted_5 : decode cX3_shifted 5 = .ok (.sipush 255, 3) := by decide +kernel
theorem dX3_shifted_8 : decode cX3_shifted 8 = .ok (.iand, 1) := by decide +kernel
theorem dX3_shifted_9 : decode cX3_shifted 9 = .ok (.ldc_w 283, 3) := by decide +kernel
theorem dX3_shifted_12 : decode cX3_shifted 12 = .ok (.imul, 1) := by decide +kernel
theorem dX3_shifted_13 : decode cX3_shifted 13 = .ok (.istore_n 2, 1) := by decide +kernel
theorem dX3_shifted_14 : decode cX3_shifted 14 = .ok (.iload_n 0, 1) := by decide +kernel
theorem dX3_shifted_15 : decode cX3_shifted 15 = .ok (.iload_n 1, 1) := by decide +kernel
theorem dX3_shifted_16 : decode cX3_shifted 16 = .ok (.ishl, 1) := by decide +kernel
theorem dX3_shifted_17 : decode cX3_shifted 17 = .ok (.iload_n 2, 1) := by decide +kernel
theorem dX3_shifted_18 : decode cX3_shifted 18 = .ok (.iand, 1) := by decide +kernel
theorem dX3_shifted_19 : decode cX3_shifted 19 = .ok (.iload_n 0, 1) := by decide +kernel
theorem dX3_shifted_20 : decode cX3_shifted 20 = .ok (.bipush 8, 2) := by decide +kernel
theorem dX3_shifted_22 : decode cX3_shifted 22 = .ok (.iload_n 1, 1) := by decide +kernel
theorem dX3_shifted_23 : decode cX3_shifted 23 = .ok (.isub, 1) := by decide +kernel
theorem dX3_shifted_24 : decode cX3_shifted 24 = .ok (.iushr, 1) := by decide +kernel
theorem dX3_shifted_25 : decode cX3_shifted 25 = .ok (.iload_n 2, 1) := by decide +kernel
theorem dX3_shifted_26 : decode cX3_shifted 26 = .ok (.iconst (-1), 1) := by decide +kernel
theorem dX3_shifted_27 : decode cX3_shifted 27 = .ok (.ixor, 1) := by decide +kernel
theorem dX3_shifted_28 : decode cX3_shifted 28 = .ok (.iand, 1) := by decide +kernel
theorem dX3_shifted_29 : decode cX3_shifted 29 = .ok (.ior, 1) := by decide +kernel
theorem dX3_shifted_30 : decode cX3_shifted 30 = .ok (.ireturn, 1) := by decide +kernel
theorem dX4_init_0 : decode cX4_init 0 = .ok (.aload_n 0, 1) := by decide +kernel
theorem dX4_init_1 : decode cX4_init 1 = .ok (.invokespecial 1, 3) := by decide +kernel
theorem dX4_init_4 : decode cX4_init 4 = .ok (.aload_n 0, 1) := by decide +kernel
theorem dX4_init_5 : decode cX4_init 5 = .ok (.iconst 2, 1) := by decide +kernel
theorem dX4_init_6 : decode cX4_init 6 = .ok (.putfield 7, 3) := by decide +kernel
theorem dX4_init_9 : decode cX4_init 9 = .ok (.aload_n 0, 1) := by decide +kernel
theorem dX4_init_10 : decode cX4_init 10 = .ok (.bipush 6, 2) := by decide +kernel
theorem dX4_init_12 : decode cX4_init 12 = .ok (.newarray .int, 2) := by decide +kernel
theorem dX4_init_14 : decode cX4_init 14 = .ok (.putfield 13, 3) := by decide +kernel
theorem dX4_init_17 : decode cX4_init 17 = .ok (.aload_n 0, 1) := by decide +kernel
theorem dX4_init_18 : decode cX4_init 18 = .ok (.bipush 6, 2) := by decide +kernel
theorem dX4_init_20 : decode cX4_init 20 = .ok (.newarray .int, 2) := by decide +kernel
theorem dX4_init_22 : decode cX4_init 22 = .ok (.putfield 17, 3) := by decide +kernel
theorem dX4_init_25 : decode cX4_init 25 = .ok (.aload_n 0, 1) := by decide +kernel
theorem dX4_init_26 : decode cX4_init 26 = .ok (.bipush 6, 2) := by decide +kernel
theorem dX4_init_28 : decode cX4_init 28 = .ok (.newarray .int, 2) := by decide +kernel
theorem dX4_init_30 : decode cX4_init 30 = .ok (.putfield 20, 3) := by decide +kernel
theorem dX4_init_33 : decode cX4_init 33 = .ok (.aload_n 0, 1) := by decide +kernel
theorem dX4_init_34 : decode cX4_init 34 = .ok (.bipush 6, 2) := by decide +kernel
theorem dX4_init_36 : decode cX4_init 36 = .ok (.newarray .int, 2) := by decide +kernel
theorem dX4_init_38 : decode cX4_init 38 = .ok (.putfield 23, 3) := by decide +kernel
theorem dX4_init_41 : decode cX4_init 41 = .ok (.aload_n 0, 1) := by decide +kernel
theorem dX4_init_42 : decode cX4_init 42 = .ok (.bipush 6, 2) := by decide +kernel
theorem dX4_init_44 : decode cX4_init 44 = .ok (.newarray .boolean, 2) := by decide +kernel
theorem dX4_init_46 : decode cX4_init 46 = .ok (.putfield 26, 3) := by decide +kernel
theorem dX4_init_49 : decode cX4_init 49 = .ok (.aload_n 0, 1) := by decide +kernel
theorem dX4_init_50 : decode cX4_init 50 = .ok (.sipush 192, 3) := by decide +kernel
theorem dX4_init_53 : decode cX4_init 53 = .ok (.newarray .boolean, 2) := by decide +kernel
theorem dX4_init_55 : decode cX4_init 55 = .ok (.putfield 30, 3) := by decide +kernel
theorem dX4_init_58 : decode cX4_init 58 = .ok (.aload_n 0, 1) := by decide +kernel
theorem dX4_init_59 : decode cX4_init 59 = .ok (.sipush 192, 3) := by decide +kernel
theorem dX4_init_62 : decode cX4_init 62 = .ok (.newarray .int, 2) := by decide +kernel
theorem dX4_init_64 : decode cX4_init 64 = .ok (.putfield 33, 3) := by decide +kernel
theorem dX4_init_67 : decode cX4_init 67 = .ok (.aload_n 0, 1) := by decide +kernel
theorem dX4_init_68 : decode cX4_init 68 = .ok (.bipush 40, 2) := by decide +kernel
theorem dX4_init_70 : decode cX4_init 70 = .ok (.newarray .int, 2) := by decide +kernel
theorem dX4_init_72 : decode cX4_init 72 = .ok (.putfield 36, 3) := by decide +kernel
theorem dX4_init_75 : decode cX4_init 75 = .ok (.aload_n 0, 1) := by decide +kernel
theorem dX4_init_76 : decode cX4_init 76 = .ok (.bipush 40, 2) := by decide +kernel
theorem dX4_init_78 : decode cX4_init 78 = .ok (.newarray .int, 2) := by decide +kernel
theorem dX4_init_80 : decode cX4_init 80 = .ok (.putfield 39, 3) := by decide +kernel
theorem dX4_init_83 : decode cX4_init 83 = .ok (.aload_n 0, 1) := by decide +kernel
theorem dX4_init_84 : decode cX4_init 84 = .ok (.bipush 40, 2) := by decide +kernel
theorem dX4_init_86 : decode cX4_init 86 = .ok (.newarray .int, 2) := by decide +kernel
theorem dX4_init_88 : decode cX4_init 88 = .ok (.putfield 42, 3) := by decide +kernel
theorem dX4_init_91 : decode cX4_init 91 = .ok (.aload_n 0, 1) := by decide +kernel
theorem dX4_init_92 : decode cX4_init 92 = .ok (.bipush 40, 2) := by decide +kernel
theorem dX4_init_94 : decode cX4_init 94 = .ok (.newarray .int, 2) := by decide +kernel
theorem dX4_init_96 : decode cX4_init 96 = .ok (.putfield 45, 3) := by decide +kernel
theorem dX4_init_99 : decode cX4_init 99 = .ok (.aload_n 0, 1) := by decide +kernel
theorem dX4_init_100 : decode cX4_init 100 = .ok (.bipush 40, 2) := by decide +kernel
theorem dX4_init_102 : decode cX4_init 102 = .ok (.newarray .boolean, 2) := by decide +kernel
theorem dX4_init_104 : decode cX4_init 104 = .ok (.putfield 48, 3) := by decide +kernel
theorem dX4_init_107 : decode cX4_init 107 = .ok (.aload_n 0, 1) := by decide +kernel
theorem dX4_init_108 : decode cX4_init 108 = .ok (.bipush 40, 2) := by decide +kernel
theorem dX4_init_110 : decode cX4_init 110 = .ok (.newarray .boolean, 2) := by decide +kernel
theorem dX4_init_112 : decode cX4_init 112 = .ok (.putfield 51, 3) := by decide +kernel
theorem dX4_init_115 : decode cX4_init 115 = .ok (.aload_n 0, 1) := by decide +kernel
theorem dX4_init_116 : decode cX4_init 116 = .ok (.sipush 160, 3) := by decide +kernel
theorem dX4_init_119 : decode cX4_init 119 = .ok (.newarray .boolean, 2) := by decide +kernel
theorem dX4_init_121 : decode cX4_init 121 = .ok (.putfield 54, 3) := by decide +kernel
theorem dX4_init_124 : decode cX4_init 124 = .ok (.aload_n 0, 1) := by decide +kernel
theorem dX4_init_125 : decode cX4_init 125 = .ok (.sipush 240, 3) := by decide +kernel
theorem dX4_init_128 : decode cX4_init 128 = .ok (.newarray .int, 2) := by decide +kernel
theorem dX4_init_130 : decode cX4_init 130 = .ok (.putfield 57, 3) := by decide +kernel
theorem dX4_init_133 : decode cX4_init 133 = .ok (.aload_n 0, 1) := by decide +kernel
theorem dX4_init_134 : decode cX4_init 134 = .ok (.ldc 60, 2) := by decide +kernel
theorem dX4_init_136 : decode cX4_init 136 = .ok (.newarray .int, 2) := by decide +kernel
theorem dX4_init_138 : decode cX4_init 138 = .ok (.putfield 61, 3) := by decide +kernel
theorem dX4_init_141 : decode cX4_init 141 = .ok (.return_, 1) := by decide +kernel
theorem dX4_thrown_0 : decode cX4_thrown 0 = .ok (.aload_n 0, 1) := by decide +kernel
theorem dX4_thrown_1 : decode cX4_thrown 1 = .ok (.getfield 64, 3) := by decide +kernel
theorem dX4_thrown_4 : decode cX4_thrown 4 = .ok (.ireturn, 1) := by decide +kernel
theorem dX4_in_0 : decode cX4_in 0 = .ok (.iload_n 0, 1) := by decide +kernel
theorem dX4_in_1 : decode cX4_in 1 = .ok (.iload_n 1, 1) := by decide +kernel
theorem dX4_in_2 : decode cX4_in 2 = .ok (.if_icmp .lt 12, 3) := by decide +kernel
theorem dX4_in_5 : decode cX4_in 5 = .ok (.iload_n 0, 1) := by decide +kernel
theorem dX4_in_6 : decode cX4_in 6 = .ok (.iload_n 2, 1) := by decide +kernel
theorem dX4_in_7 : decode cX4_in 7 = .ok (.if_icmp .gt 7, 3) := by decide +kernel
theorem dX4_in_10 : decode cX4_in 10 = .ok (.iconst 1, 1) := by decide +kernel
theorem dX4_in_11 : decode cX4_in 11 = .ok (.goto 4, 3) := by decide +kernel
theorem dX4_in_14 : decode cX4_in 14 = .ok (.iconst 0, 1) := by decide +kernel
theorem dX4_in_15 : decode cX4_in 15 = .ok (.ireturn, 1) := by decide +kernel
theorem dX4_fails_0 : decode cX4_fails 0 = .ok (.iload_n 1, 1) := by decide +kernel
theorem dX4_fails_1 : decode cX4_fails 1 = .ok (.ifCond .eq 15, 3) := by decide +kernel
theorem dX4_fails_4 : decode cX4_fails 4 = .ok (.aload_n 0, 1) := by decide +kernel
theorem dX4_fails_5 : decode cX4_fails 5 = .ok (.getfield 64, 3) := by decide +kernel
theorem dX4_fails_8 : decode cX4_fails 8 = .ok (.ifCond .ne 8, 3) := by decide +kernel
theorem dX4_fails_11 : decode cX4_fails 11 = .ok (.aload_n 0, 1) := by decide +kernel
theorem dX4_fails_12 : decode cX4_fails 12 = .ok (.iload_n 2, 1) := by decide +kernel
theorem dX4_fails_13 : decode cX4_fails 13 = .ok (.putfield 64, 3) := by decide +kernel
theorem dX4_fails_16 : decode cX4_fails 16 = .ok (.aload_n 0, 1) := by decide +kernel
theorem dX4_fails_17 : decode cX4_fails 17 = .ok (.getfield 64, 3) := by decide +kernel
theorem dX4_fails_20 : decode cX4_fails 20 = .ok (.ifCond .eq 7, 3) := by decide +kernel
theorem dX4_fails_23 : decode cX4_fails 23 = .ok (.iconst 1, 1) := by decide +kernel
theorem dX4_fails_24 : decode cX4_fails 24 = .ok (.goto 4, 3) := by decide +kernel
theorem dX4_fails_27 : decode cX4_fails 27 = .ok (.iconst 0, 1) := by decide +kernel
theorem dX4_fails_28 : decode cX4_fails 28 = .ok (.ireturn, 1) := by decide +kernel
theorem dX4_least_0 : decode cX4_least 0 = .ok (.iload_n 0, 1) := by decide +kernel
theorem dX4_least_1 : decode cX4_least 1 = .ok (.iload_n 1, 1) := by decide +kernel
theorem dX4_least_2 : decode cX4_least 2 = .ok (.if_icmp .ge 7, 3) := by decide +kernel
theorem dX4_least_5 : decode cX4_least 5 = .ok (.iload_n 0, 1) := by decide +kernel
theorem dX4_least_6 : decode cX4_least 6 = .ok (.goto 4, 3) := by decide +kernel
theorem dX4_least_9 : decode cX4_least 9 = .ok (.iload_n 1, 1) := by decide +kernel
theorem dX4_least_10 : decode cX4_least 10 = .ok (.ireturn, 1) := by decide +kernel
theorem dX4_most_0 : decode cX4_most 0 = .ok (.iload_n 0, 1) := by decide +kernel
theorem dX4_most_1 : decode cX4_most 1 = .ok (.iload_n 1, 1) := by decide +kernel
theorem dX4_most_2 : decode cX4_most 2 = .ok (.if_icmp .le 7, 3) := by decide +kernel
theorem dX4_most_5 : decode cX4_most 5 = .ok (.iload_n 0, 1) := by decide +kernel
theorem dX4_most_6 : decode cX4_most 6 = .ok (.goto 4, 3) := by decide +kernel
theorem dX4_most_9 : decode cX4_most 9 = .ok (.iload_n 1, 1) := by decide +kernel
theorem dX4_most_10 : decode cX4_most 10 = .ok (.ireturn, 1) := by decide +kernel
theorem dX4_noBoard_0 : decode cX4_noBoard 0 = .ok (.iload_n 1, 1) := by decide +kernel
theorem dX4_noBoard_1 : decode cX4_noBoard 1 = .ok (.iconst 0, 1) := by decide +kernel
theorem dX4_noBoard_2 : decode cX4_noBoard 2 = .ok (.aload_n 0, 1) := by decide +kernel
theorem dX4_noBoard_3 : decode cX4_noBoard 3 = .ok (.getfield 67, 3) := by decide +kernel
theorem dX4_noBoard_6 : decode cX4_noBoard 6 = .ok (.iconst 1, 1) := by decide +kernel
theorem dX4_noBoard_7 : decode cX4_noBoard 7 = .ok (.isub, 1) := by decide +kernel
theorem dX4_noBoard_8 : decode cX4_noBoard 8 = .ok (.invokestatic 70, 3) := by decide +kernel
theorem dX4_noBoard_11 : decode cX4_noBoard 11 = .ok (.ifCond .ne 7, 3) := by decide +kernel
theorem dX4_noBoard_14 : decode cX4_noBoard 14 = .ok (.iconst 1, 1) := by decide +kernel
theorem dX4_noBoard_15 : decode cX4_noBoard 15 = .ok (.goto 4, 3) := by decide +kernel
theorem dX4_noBoard_18 : decode cX4_noBoard 18 = .ok (.iconst 0, 1) := by decide +kernel
theorem dX4_noBoard_19 : decode cX4_noBoard 19 = .ok (.ireturn, 1) := by decide +kernel
theorem dX4_noNotice_0 : decode cX4_noNotice 0 = .ok (.iload_n 1, 1) := by decide +kernel
theorem dX4_noNotice_1 : decode cX4_noNotice 1 = .ok (.iconst 0, 1) := by decide +kernel
theorem dX4_noNotice_2 : decode cX4_noNotice 2 = .ok (.aload_n 0, 1) := by decide +kernel
theorem dX4_noNotice_3 : decode cX4_noNotice 3 = .ok (.getfield 74, 3) := by decide +kernel
theorem dX4_noNotice_6 : decode cX4_noNotice 6 = .ok (.iconst 1, 1) := by decide +kernel
theorem dX4_noNotice_7 : decode cX4_noNotice 7 = .ok (.isub, 1) := by decide +kernel
theorem dX4_noNotice_8 : decode cX4_noNotice 8 = .ok (.invokestatic 70, 3) := by decide +kernel
theorem dX4_noNotice_11 : decode cX4_noNotice 11 = .ok (.ifCond .ne 7, 3) := by decide +kernel
theorem dX4_noNotice_14 : decode cX4_noNotice 14 = .ok (.iconst 1, 1) := by decide +kernel
theorem dX4_noNotice_15 : decode cX4_noNotice 15 = .ok (.goto 4, 3) := by decide +kernel
theorem dX4_noNotice_18 : decode cX4_noNotice 18 = .ok (.iconst 0, 1) := by decide +kernel
theorem dX4_noNotice_19 : decode cX4_noNotice 19 = .ok (.ireturn, 1) := by decide +kernel
theorem dX4_noDistrict_0 : decode cX4_noDistrict 0 = .ok (.iload_n 0, 1) := by decide +kernel
theorem dX4_noDistrict_1 : decode cX4_noDistrict 1 = .ok (.iconst 0, 1) := by decide +kernel
theorem dX4_noDistrict_2 : decode cX4_noDistrict 2 = .ok (.iconst 3, 1) := by decide +kernel
theorem dX4_noDistrict_3 : decode cX4_noDistrict 3 = .ok (.invokestatic 70, 3) := by decide +kernel
theorem dX4_noDistrict_6 : decode cX4_noDistrict 6 = .ok (.ifCond .ne 7, 3) := by decide +kernel
theorem dX4_noDistrict_9 : decode cX4_noDistrict 9 = .ok (.iconst 1, 1) := by decide +kernel
theorem dX4_noDistrict_10 : decode cX4_noDistrict 10 = .ok (.goto 4, 3) := by decide +kernel
theorem dX4_noDistrict_13 : decode cX4_noDistrict 13 = .ok (.iconst 0, 1) := by decide +kernel
theorem dX4_noDistrict_14 : decode cX4_noDistrict 14 = .ok (.ireturn, 1) := by decide +kernel
theorem dX4_has_0 : decode cX4_has 0 = .ok (.iload_n 2, 1) := by decide +kernel
theorem dX4_has_1 : decode cX4_has 1 = .ok (.bipush 8, 2) := by decide +kernel
theorem dX4_has_3 : decode cX4_has 3 = .ok (.irem, 1) := by decide +kernel
theorem dX4_has_4 : decode cX4_has 4 = .ok (.iload_n 1, 1) := by decide +kernel
theorem dX4_has_5 : decode cX4_has 5 = .ok (.isub, 1) := by decide +kernel
theorem dX4_has_6 : decode cX4_has 6 = .ok (.bipush 8, 2) := by decide +kernel
theorem dX4_has_8 : decode cX4_has 8 = .ok (.iadd, 1) := by decide +kernel
theorem dX4_has_9 : decode cX4_has 9 = .ok (.bipush 8, 2) := by decide +kernel
theorem dX4_has_11 : decode cX4_has 11 = .ok (.irem, 1) := by decide +kernel
theorem dX4_has_12 : decode cX4_has 12 = .ok (.istore_n 3, 1) := by decide +kernel
theorem dX4_has_13 : decode cX4_has 13 = .ok (.iload_n 0, 1) := by decide +kernel
theorem dX4_has_14 : decode cX4_has 14 = .ok (.iload_n 2, 1) := by decide +kernel
theorem dX4_has_15 : decode cX4_has 15 = .ok (.bipush 8, 2) := by decide +kernel
theorem dX4_has_17 : decode cX4_has 17 = .ok (.idiv, 1) := by decide +kernel
theorem dX4_has_18 : decode cX4_has 18 = .ok (.bipush 8, 2) := by decide +kernel
theorem dX4_has_20 : decode cX4_has 20 = .ok (.imul, 1) := by decide +kernel
theorem dX4_has_21 : decode cX4_has 21 = .ok (.iload_n 3, 1) := by decide +kernel
theorem dX4_has_22 : decode cX4_has 22 = .ok (.iadd, 1) := by decide +kernel
theorem dX4_has_23 : decode cX4_has 23 = .ok (.iushr, 1) := by decide +kernel
theorem dX4_has_24 : decode cX4_has 24 = .ok (.iconst 1, 1) := by decide +kernel
theorem dX4_has_25 : decode cX4_has 25 = .ok (.iand, 1) := by decide +kernel
theorem dX4_has_26 : decode cX4_has 26 = .ok (.iconst 1, 1) := by decide +kernel
theorem dX4_has_27 : decode cX4_has 27 = .ok (.if_icmp .ne 7, 3) := by decide +kernel
theorem dX4_has_30 : decode cX4_has 30 = .ok (.iconst 1, 1) := by decide +kernel
theorem dX4_has_31 : decode cX4_has 31 = .ok (.goto 4, 3) := by decide +kernel
theorem dX4_has_34 : decode cX4_has 34 = .ok (.iconst 0, 1) := by decide +kernel
theorem dX4_has_35 : decode cX4_has 35 = .ok (.ireturn, 1) := by decide +kernel
theorem dX4_blacks_0 : decode cX4_blacks 0 = .ok (.iconst 0, 1) := by decide +kernel
theorem dX4_blacks_1 : decode cX4_blacks 1 = .ok (.istore_n 1, 1) := by decide +kernel
theorem dX4_blacks_2 : decode cX4_blacks 2 = .ok (.iconst 0, 1) := by decide +kernel
theorem dX4_blacks_3 : decode cX4_blacks 3 = .ok (.istore_n 2, 1) := by decide +kernel
theorem dX4_blacks_4 : decode cX4_blacks 4 = .ok (.iload_n 2, 1) := by decide +kernel
theorem dX4_blacks_5 : decode cX4_blacks 5 = .ok (.bipush 32, 2) := by decide +kernel
theorem dX4_blacks_7 : decode cX4_blacks 7 = .ok (.if_icmp .ge 26, 3) := by decide +kernel
theorem dX4_blacks_10 : decode cX4_blacks 10 = .ok (.iload_n 1, 1) := by decide +kernel
theorem dX4_blacks_11 : decode cX4_blacks 11 = .ok (.iload_n 0, 1) := by decide +kernel
theorem dX4_blacks_12 : decode cX4_blacks 12 = .ok (.iconst 0, 1) := by decide +kernel
theorem dX4_blacks_13 : decode cX4_blacks 13 = .ok (.iload_n 2, 1) := by decide +kernel
theorem dX4_blacks_14 : decode cX4_blacks 14 = .ok (.invokestatic 77, 3) := by decide +kernel
theorem dX4_blacks_17 : decode cX4_blacks 17 = .ok (.ifCond .eq 7, 3) := by decide +kernel
theorem dX4_blacks_20 : decode cX4_blacks 20 = .ok (.iconst 1, 1) := by decide +kernel
theorem dX4_blacks_21 : decode cX4_blacks 21 = .ok (.goto 4, 3) := by decide +kernel
theorem dX4_blacks_24 : decode cX4_blacks 24 = .ok (.iconst 0, 1) := by decide +kernel
theorem dX4_blacks_25 : decode cX4_blacks 25 = .ok (.iadd, 1) := by decide +kernel
theorem dX4_blacks_26 : decode cX4_blacks 26 = .ok (.istore_n 1, 1) := by decide +kernel
theorem dX4_blacks_27 : decode cX4_blacks 27 = .ok (.iinc 2 1, 3) := by decide +kernel
theorem dX4_blacks_30 : decode cX4_blacks 30 = .ok (.goto (-26), 3) := by decide +kernel
theorem dX4_blacks_33 : decode cX4_blacks 33 = .ok (.iload_n 1, 1) := by decide +kernel
theorem dX4_blacks_34 : decode cX4_blacks 34 = .ok (.ireturn, 1) := by decide +kernel
theorem dX4_addBoard_0 : decode cX4_addBoard 0 = .ok (.aload_n 0, 1) := by decide +kernel
theorem dX4_addBoard_1 : decode cX4_addBoard 1 = .ok (.iconst 0, 1) := by decide +kernel
theorem dX4_addBoard_2 : decode cX4_addBoard 2 = .ok (.putfield 64, 3) := by decide +kernel
theorem dX4_addBoard_5 : decode cX4_addBoard 5 = .ok (.aload_n 0, 1) := by decide +kernel
theorem dX4_addBoard_6 : decode cX4_addBoard 6 = .ok (.iload_n 1, 1) := by decide +kernel
theorem dX4_addBoard_7 : decode cX4_addBoard 7 = .ok (.invokestatic 80, 3) := by decide +kernel
theorem dX4_addBoard_10 : decode cX4_addBoard 10 = .ok (.ifCond .ne 14, 3) := by decide +kernel
theorem dX4_addBoard_13 : decode cX4_addBoard 13 = .ok (.iload_n 2, 1) := by decide +kernel
theorem dX4_addBoard_14 : decode cX4_addBoard 14 = .ok (.iconst 0, 1) := by decide +kernel
theorem dX4_addBoard_15 : decode cX4_addBoard 15 = .ok (.sipush 200, 3) := by decide +kernel
theorem dX4_addBoard_18 : decode cX4_addBoard 18 = .ok (.invokestatic 70, 3) := by decide +kernel
theorem dX4_addBoard_21 : decode cX4_addBoard 21 = .ok (.ifCond .ne 7, 3) := by decide +kernel
theorem dX4_addBoard_24 : decode cX4_addBoard 24 = .ok (.iconst 1, 1) := by decide +kernel
theorem dX4_addBoard_25 : decode cX4_addBoard 25 = .ok (.goto 4, 3) := by decide +kernel
theorem dX4_addBoard_28 : decode cX4_addBoard 28 = .ok (.iconst 0, 1) := by decide +kernel
theorem dX4_addBoard_29 : decode cX4_addBoard 29 = .ok (.iconst 1, 1) := by decide +kernel
theorem dX4_addBoard_30 : decode cX4_addBoard 30 = .ok (.invokevirtual 84, 3) := by decide +kernel
theorem dX4_addBoard_33 : decode cX4_addBoard 33 = .ok (.ifCond .ne 25, 3) := by decide +kernel
theorem dX4_addBoard_36 : decode cX4_addBoard 36 = .ok (.aload_n 0, 1) := by decide +kernel
theorem dX4_addBoard_37 : decode cX4_addBoard 37 = .ok (.aload_n 0, 1) := by decide +kernel
theorem dX4_addBoard_38 : decode cX4_addBoard 38 = .ok (.getfield 67, 3) := by decide +kernel
theorem dX4_addBoard_41 : decode cX4_addBoard 41 = .ok (.bipush 6, 2) := by decide +kernel
theorem dX4_addBoard_43 : decode cX4_addBoard 43 = .ok (.if_icmp .ne 7, 3) := by decide +kernel
theorem dX4_addBoard_46 : decode cX4_addBoard 46 = .ok (.iconst 1, 1) := by decide +kernel
theorem dX4_addBoard_47 : decode cX4_addBoard 47 = .ok (.goto 4, 3) := by decide +kernel
theorem dX4_addBoard_50 : decode cX4_addBoard 50 = .ok (.iconst 0, 1) := by decide +kernel
theorem dX4_addBoard_51 : decode cX4_addBoard 51 = .ok (.iconst 2, 1) := by decide +kernel
theorem dX4_addBoard_52 : decode cX4_addBoard 52 = .ok (.invokevirtual 84, 3) := by decide +kernel
theorem dX4_addBoard_55 : decode cX4_addBoard 55 = .ok (.ifCond .eq 5, 3) := by decide +kernel
theorem dX4_addBoard_58 : decode cX4_addBoard 58 = .ok (.iconst 0, 1) := by decide +kernel
theorem dX4_addBoard_59 : decode cX4_addBoard 59 = .ok (.ireturn, 1) := by decide +kernel
theorem dX4_addBoard_60 : decode cX4_addBoard 60 = .ok (.aload_n 0, 1) := by decide +kernel
theorem dX4_addBoard_61 : decode cX4_addBoard 61 = .ok (.getfield 13, 3) := by decide +kernel
theorem dX4_addBoard_64 : decode cX4_addBoard 64 = .ok (.aload_n 0, 1) := by decide +kernel
theorem dX4_addBoard_65 : decode cX4_addBoard 65 = .ok (.getfield 67, 3) := by decide +kernel
theorem dX4_addBoard_68 : decode cX4_addBoard 68 = .ok (.iload_n 1, 1) := by decide +kernel
theorem dX4_addBoard_69 : decode cX4_addBoard 69 = .ok (.iastore, 1) := by decide +kernel
theorem dX4_addBoard_70 : decode cX4_addBoard 70 = .ok (.aload_n 0, 1) := by decide +kernel
theorem dX4_addBoard_71 : decode cX4_addBoard 71 = .ok (.getfield 17, 3) := by decide +kernel
theorem dX4_addBoard_74 : decode cX4_addBoard 74 = .ok (.aload_n 0, 1) := by decide +kernel
theorem dX4_addBoard_75 : decode cX4_addBoard 75 = .ok (.getfield 67, 3) := by decide +kernel
theorem dX4_addBoard_78 : decode cX4_addBoard 78 = .ok (.iload_n 2, 1) := by decide +kernel
theorem dX4_addBoard_79 : decode cX4_addBoard 79 = .ok (.iastore, 1) := by decide +kernel
theorem dX4_addBoard_80 : decode cX4_addBoard 80 = .ok (.aload_n 0, 1) := by decide +kernel
theorem dX4_addBoard_81 : decode cX4_addBoard 81 = .ok (.getfield 20, 3) := by decide +kernel
theorem dX4_addBoard_84 : decode cX4_addBoard 84 = .ok (.aload_n 0, 1) := by decide +kernel
theorem dX4_addBoard_85 : decode cX4_addBoard 85 = .ok (.getfield 67, 3) := by decide +kernel
theorem dX4_addBoard_88 : decode cX4_addBoard 88 = .ok (.iconst (-1), 1) := by decide +kernel
theorem dX4_addBoard_89 : decode cX4_addBoard 89 = .ok (.iastore, 1) := by decide +kernel
theorem dX4_addBoard_90 : decode cX4_addBoard 90 = .ok (.aload_n 0, 1) := by decide +kernel
theorem dX4_addBoard_91 : decode cX4_addBoard 91 = .ok (.dup, 1) := by decide +kernel
theorem dX4_addBoard_92 : decode cX4_addBoard 92 = .ok (.getfield 67, 3) := by decide +kernel
theorem dX4_addBoard_95 : decode cX4_addBoard 95 = .ok (.iconst 1, 1) := by decide +kernel
theorem dX4_addBoard_96 : decode cX4_addBoard 96 = .ok (.iadd, 1) := by decide +kernel
theorem dX4_addBoard_97 : decode cX4_addBoard 97 = .ok (.putfield 67, 3) := by decide +kernel
theorem dX4_addBoard_100 : decode cX4_addBoard 100 = .ok (.aload_n 0, 1) := by decide +kernel
theorem dX4_addBoard_101 : decode cX4_addBoard 101 = .ok (.getfield 67, 3) := by decide +kernel
theorem dX4_addBoard_104 : decode cX4_addBoard 104 = .ok (.iconst 1, 1) := by decide +kernel
theorem dX4_addBoard_105 : decode cX4_addBoard 105 = .ok (.isub, 1) := by decide +kernel
theorem dX4_addBoard_106 : decode cX4_addBoard 106 = .ok (.ireturn, 1) := by decide +kernel
theorem dX4_setSun_0 : decode cX4_setSun 0 = .ok (.aload_n 0, 1) := by decide +kernel
theorem dX4_setSun_1 : decode cX4_setSun 1 = .ok (.iconst 0, 1) := by decide +kernel
theorem dX4_setSun_2 : decode cX4_setSun 2 = .ok (.putfield 64, 3) := by decide +kernel
theorem dX4_setSun_5 : decode cX4_setSun 5 = .ok (.aload_n 0, 1) := by decide +kernel
theorem dX4_setSun_6 : decode cX4_setSun 6 = .ok (.iload_n 1, 1) := by decide +kernel
theorem dX4_setSun_7 : decode cX4_setSun 7 = .ok (.iconst 0, 1) := by decide +kernel
theorem dX4_setSun_8 : decode cX4_setSun 8 = .ok (.bipush 20, 2) := by decide +kernel
theorem dX4_setSun_10 : decode cX4_setSun 10 = .ok (.invokestatic 70, 3) := by decide +kernel
theorem dX4_setSun_13 : decode cX4_setSun 13 = .ok (.ifCond .ne 7, 3) := by decide +kernel
theorem dX4_setSun_16 : decode cX4_setSun 16 = .ok (.iconst 1, 1) := by decide +kernel
theorem dX4_setSun_17 : decode cX4_setSun 17 = .ok (.goto 4, 3) := by decide +kernel
theorem dX4_setSun_20 : decode cX4_setSun 20 = .ok (.iconst 0, 1) := by decide +kernel
theorem dX4_setSun_21 : decode cX4_setSun 21 = .ok (.iconst 1, 1) := by decide +kernel
theorem dX4_setSun_22 : decode cX4_setSun 22 = .ok (.invokevirtual 84, 3) := by decide +kernel
theorem dX4_setSun_25 : decode cX4_setSun 25 = .ok (.ifCond .eq 5, 3) := by decide +kernel
theorem dX4_setSun_28 : decode cX4_setSun 28 = .ok (.iconst 0, 1) := by decide +kernel
theorem dX4_setSun_29 : decode cX4_setSun 29 = .ok (.ireturn, 1) := by decide +kernel
theorem dX4_setSun_30 : decode cX4_setSun 30 = .ok (.aload_n 0, 1) := by decide +kernel
theorem dX4_setSun_31 : decode cX4_setSun 31 = .ok (.getfield 7, 3) := by decide +kernel
theorem dX4_setSun_34 : decode cX4_setSun 34 = .ok (.istore_n 2, 1) := by decide +kernel
theorem dX4_setSun_35 : decode cX4_setSun 35 = .ok (.aload_n 0, 1) := by decide +kernel
theorem dX4_setSun_36 : decode cX4_setSun 36 = .ok (.iload_n 1, 1) := by decide +kernel
theorem dX4_setSun_37 : decode cX4_setSun 37 = .ok (.putfield 7, 3) := by decide +kernel
theorem dX4_setSun_40 : decode cX4_setSun 40 = .ok (.iload_n 2, 1) := by decide +kernel
theorem dX4_setSun_41 : decode cX4_setSun 41 = .ok (.ireturn, 1) := by decide +kernel
theorem dX4_charge_0 : decode cX4_charge 0 = .ok (.aload_n 0, 1) := by decide +kernel
theorem dX4_charge_1 : decode cX4_charge 1 = .ok (.iconst 0, 1) := by decide +kernel
theorem dX4_charge_2 : decode cX4_charge 2 = .ok (.putfield 64, 3) := by decide +kernel
theorem dX4_charge_5 : decode cX4_charge 5 = .ok (.aload_n 0, 1) := by decide +kernel
theorem dX4_charge_6 : decode cX4_charge 6 = .ok (.aload_n 0, 1) := by decide +kernel
theorem dX4_charge_7 : decode cX4_charge 7 = .ok (.iload_n 1, 1) := by decide +kernel
theorem dX4_charge_8 : decode cX4_charge 8 = .ok (.invokevirtual 88, 3) := by decide +kernel
theorem dX4_charge_11 : decode cX4_charge 11 = .ok (.iconst 1, 1) := by decide +kernel
theorem dX4_charge_12 : decode cX4_charge 12 = .ok (.invokevirtual 84, 3) := by decide +kernel
theorem dX4_charge_15 : decode cX4_charge 15 = .ok (.ifCond .eq 7, 3) := by decide +kernel
theorem dX4_charge_18 : decode cX4_charge 18 = .ok (.iconst 0, 1) := by decide +kernel
theorem dX4_charge_19 : decode cX4_charge 19 = .ok (.goto 9, 3) := by decide +kernel
theorem dX4_charge_22 : decode cX4_charge 22 = .ok (.aload_n 0, 1) := by decide +kernel
theorem dX4_charge_23 : decode cX4_charge 23 = .ok (.getfield 17, 3) := by decide +kernel
theorem dX4_charge_26 : decode cX4_charge 26 = .ok (.iload_n 1, 1) := by decide +kernel
theorem dX4_charge_27 : decode cX4_charge 27 = .ok (.iaload, 1) := by decide +kernel
theorem dX4_charge_28 : decode cX4_charge 28 = .ok (.ireturn, 1) := by decide +kernel
theorem dX4_noCell_0 : decode cX4_noCell 0 = .ok (.aload_n 0, 1) := by decide +kernel
theorem dX4_noCell_1 : decode cX4_noCell 1 = .ok (.iload_n 1, 1) := by decide +kernel
theorem dX4_noCell_2 : decode cX4_noCell 2 = .ok (.invokevirtual 88, 3) := by decide +kernel
theorem dX4_noCell_5 : decode cX4_noCell 5 = .ok (.ifCond .ne 22, 3) := by decide +kernel
theorem dX4_noCell_8 : decode cX4_noCell 8 = .ok (.iload_n 2, 1) := by decide +kernel
theorem dX4_noCell_9 : decode cX4_noCell 9 = .ok (.iconst 0, 1) := by decide +kernel
theorem dX4_noCell_10 : decode cX4_noCell 10 = .ok (.bipush 7, 2) := by decide +kernel
theorem dX4_noCell_12 : decode cX4_noCell 12 = .ok (.invokestatic 70, 3) := by decide +kernel
theorem dX4_noCell_15 : decode cX4_noCell 15 = .ok (.ifCond .eq 12, 3) := by decide +kernel
theorem dX4_noCell_18 : decode cX4_noCell 18 = .ok (.iload_n 3, 1) := by decide +kernel
theorem dX4_noCell_19 : decode cX4_noCell 19 = .ok (.iconst 0, 1) := by decide +kernel
theorem dX4_noCell_20 : decode cX4_noCell 20 = .ok (.iconst 3, 1) := by decide +kernel
theorem dX4_noCell_21 : decode cX4_noCell 21 = .ok (.invokestatic 70, 3) := by decide +kernel
theorem dX4_noCell_24 : decode cX4_noCell 24 = .ok (.ifCond .ne 7, 3) := by decide +kernel
theorem dX4_noCell_27 : decode cX4_noCell 27 = .ok (.iconst 1, 1) := by decide +kernel
theorem dX4_noCell_28 : decode cX4_noCell 28 = .ok (.goto 4, 3) := by decide +kernel
theorem dX4_noCell_31 : decode cX4_noCell 31 = .ok (.iconst 0, 1) := by decide +kernel
theorem dX4_noCell_32 : decode cX4_noCell 32 = .ok (.ireturn, 1) := by decide +kernel
theorem dX4_cell_0 : decode cX4_cell 0 = .ok (.aload_n 0, 1) := by decide +kernel
theorem dX4_cell_1 : decode cX4_cell 1 = .ok (.iconst 0, 1) := by decide +kernel
theorem dX4_cell_2 : decode cX4_cell 2 = .ok (.putfield 64, 3) := by decide +kernel
theorem dX4_cell_5 : decode cX4_cell 5 = .ok (.aload_n 0, 1) := by decide +kernel
theorem dX4_cell_6 : decode cX4_cell 6 = .ok (.aload_n 0, 1) := by decide +kernel
theorem dX4_cell_7 : decode cX4_cell 7 = .ok (.iload_n 1, 1) := by decide +kernel
theorem dX4_cell_8 : decode cX4_cell 8 = .ok (.iload_n 2, 1) := by decide +kernel
theorem dX4_cell_9 : decode cX4_cell 9 = .ok (.iload_n 3, 1) := by decide +kernel
theorem dX4_cell_10 : decode cX4_cell 10 = .ok (.invokevirtual 91, 3) := by decide +kernel
theorem dX4_cell_13 : decode cX4_cell 13 = .ok (.iconst 1, 1) := by decide +kernel
theorem dX4_cell_14 : decode cX4_cell 14 = .ok (.invokevirtual 84, 3) := by decide +kernel
theorem dX4_cell_17 : decode cX4_cell 17 = .ok (.ifCond .ne 22, 3) := by decide +kernel
theorem dX4_cell_20 : decode cX4_cell 20 = .ok (.aload_n 0, 1) := by decide +kernel
theorem dX4_cell_21 : decode cX4_cell 21 = .ok (.getfield 30, 3) := by decide +kernel
theorem dX4_cell_24 : decode cX4_cell 24 = .ok (.bipush 32, 2) := by decide +kernel
theorem dX4_cell_26 : decode cX4_cell 26 = .ok (.iload_n 1, 1) := by decide +kernel
theorem dX4_cell_27 : decode cX4_cell 27 = .ok (.imul, 1) := by decide +kernel
theorem dX4_cell_28 : decode cX4_cell 28 = .ok (.bipush 8, 2) := by decide +kernel
theorem dX4_cell_30 : decode cX4_cell 30 = .ok (.iload_n 3, 1) := by decide +kernel
theorem dX4_cell_31 : decode cX4_cell 31 = .ok (.imul, 1) := by decide +kernel
theorem dX4_cell_32 : decode cX4_cell 32 = .ok (.iadd, 1) := by decide +kernel
theorem dX4_cell_33 : decode cX4_cell 33 = .ok (.iload_n 2, 1) := by decide +kernel
theorem dX4_cell_34 : decode cX4_cell 34 = .ok (.iadd, 1) := by decide +kernel
theorem dX4_cell_35 : decode cX4_cell 35 = .ok (.baload, 1) := by decide +kernel
theorem dX4_cell_36 : decode cX4_cell 36 = .ok (.ifCond .ne 7, 3) := by decide +kernel
theorem dX4_cell_39 : decode cX4_cell 39 = .ok (.iconst 0, 1) := by decide +kernel
theorem dX4_cell_40 : decode cX4_cell 40 = .ok (.goto 4, 3) := by decide +kernel
theorem dX4_cell_43 : decode cX4_cell 43 = .ok (.iconst 1, 1) := by decide +kernel
theorem dX4_cell_44 : decode cX4_cell 44 = .ok (.ireturn, 1) := by decide +kernel
theorem dX4_wear_0 : decode cX4_wear 0 = .ok (.aload_n 0, 1) := by decide +kernel
theorem dX4_wear_1 : decode cX4_wear 1 = .ok (.iconst 0, 1) := by decide +kernel
theorem dX4_wear_2 : decode cX4_wear 2 = .ok (.putfield 64, 3) := by decide +kernel
theorem dX4_wear_5 : decode cX4_wear 5 = .ok (.aload_n 0, 1) := by decide +kernel
theorem dX4_wear_6 : decode cX4_wear 6 = .ok (.aload_n 0, 1) := by decide +kernel
theorem dX4_wear_7 : decode cX4_wear 7 = .ok (.iload_n 1, 1) := by decide +kernel
theorem dX4_wear_8 : decode cX4_wear 8 = .ok (.iload_n 2, 1) := by decide +kernel
theorem dX4_wear_9 : decode cX4_wear 9 = .ok (.iload_n 3, 1) := by decide +kernel
theorem dX4_wear_10 : decode cX4_wear 10 = .ok (.invokevirtual 91, 3) := by decide +kernel
theorem dX4_wear_13 : decode cX4_wear 13 = .ok (.iconst 1, 1) := by decide +kernel
theorem dX4_wear_14 : decode cX4_wear 14 = .ok (.invokevirtual 84, 3) := by decide +kernel
theorem dX4_wear_17 : decode cX4_wear 17 = .ok (.ifCond .eq 7, 3) := by decide +kernel
theorem dX4_wear_20 : decode cX4_wear 20 = .ok (.iconst 0, 1) := by decide +kernel
theorem dX4_wear_21 : decode cX4_wear 21 = .ok (.goto 19, 3) := by decide +kernel
theorem dX4_wear_24 : decode cX4_wear 24 = .ok (.aload_n 0, 1) := by decide +kernel
theorem dX4_wear_25 : decode cX4_wear 25 = .ok (.getfield 33, 3) := by decide +kernel
theorem dX4_wear_28 : decode cX4_wear 28 = .ok (.bipush 32, 2) := by decide +kernel
theorem dX4_wear_30 : decode cX4_wear 30 = .ok (.iload_n 1, 1) := by decide +kernel
theorem dX4_wear_31 : decode cX4_wear 31 = .ok (.imul, 1) := by decide +kernel
theorem dX4_wear_32 : decode cX4_wear 32 = .ok (.bipush 8, 2) := by decide +kernel
theorem dX4_wear_34 : decode cX4_wear 34 = .ok (.iload_n 3, 1) := by decide +kernel
theorem dX4_wear_35 : decode cX4_wear 35 = .ok (.imul, 1) := by decide +kernel
theorem dX4_wear_36 : decode cX4_wear 36 = .ok (.iadd, 1) := by decide +kernel
theorem dX4_wear_37 : decode cX4_wear 37 = .ok (.iload_n 2, 1) := by decide +kernel
theorem dX4_wear_38 : decode cX4_wear 38 = .ok (.iadd, 1) := by decide +kernel
theorem dX4_wear_39 : decode cX4_wear 39 = .ok (.iaload, 1) := by decide +kernel
theorem dX4_wear_40 : decode cX4_wear 40 = .ok (.ireturn, 1) := by decide +kernel
theorem dX4_shows_0 : decode cX4_shows 0 = .ok (.aload_n 0, 1) := by decide +kernel
theorem dX4_shows_1 : decode cX4_shows 1 = .ok (.iconst 0, 1) := by decide +kernel
theorem dX4_shows_2 : decode cX4_shows 2 = .ok (.putfield 64, 3) := by decide +kernel
theorem dX4_shows_5 : decode cX4_shows 5 = .ok (.aload_n 0, 1) := by decide +kernel
theorem dX4_shows_6 : decode cX4_shows 6 = .ok (.aload_n 0, 1) := by decide +kernel
theorem dX4_shows_7 : decode cX4_shows 7 = .ok (.iload_n 1, 1) := by decide +kernel
theorem dX4_shows_8 : decode cX4_shows 8 = .ok (.invokevirtual 88, 3) := by decide +kernel
theorem dX4_shows_11 : decode cX4_shows 11 = .ok (.iconst 1, 1) := by decide +kernel
theorem dX4_shows_12 : decode cX4_shows 12 = .ok (.invokevirtual 84, 3) := by decide +kernel
theorem dX4_shows_15 : decode cX4_shows 15 = .ok (.ifCond .eq 7, 3) := by decide +kernel
theorem dX4_shows_18 : decode cX4_shows 18 = .ok (.iconst 0, 1) := by decide +kernel
theorem dX4_shows_19 : decode cX4_shows 19 = .ok (.goto 9, 3) := by decide +kernel
theorem dX4_shows_22 : decode cX4_shows 22 = .ok (.aload_n 0, 1) := by decide +kernel
theorem dX4_shows_23 : decode cX4_shows 23 = .ok (.getfield 20, 3) := by decide +kernel
theorem dX4_shows_26 : decode cX4_shows 26 = .ok (.iload_n 1, 1) := by decide +kernel
theorem dX4_shows_27 : decode cX4_shows 27 = .ok (.iaload, 1) := by decide +kernel
theorem dX4_shows_28 : decode cX4_shows 28 = .ok (.ireturn, 1) := by decide +kernel
theorem dX4_shift_0 : decode cX4_shift 0 = .ok (.aload_n 0, 1) := by decide +kernel
theorem dX4_shift_1 : decode cX4_shift 1 = .ok (.iconst 0, 1) := by decide +kernel
theorem dX4_shift_2 : decode cX4_shift 2 = .ok (.putfield 64, 3) := by decide +kernel
theorem dX4_shift_5 : decode cX4_shift 5 = .ok (.aload_n 0, 1) := by decide +kernel
theorem dX4_shift_6 : decode cX4_shift 6 = .ok (.aload_n 0, 1) := by decide +kernel
theorem dX4_shift_7 : decode cX4_shift 7 = .ok (.iload_n 1, 1) := by decide +kernel
theorem dX4_shift_8 : decode cX4_shift 8 = .ok (.invokevirtual 88, 3) := by decide +kernel
theorem dX4_shift_11 : decode cX4_shift 11 = .ok (.iconst 1, 1) := by decide +kernel
theorem dX4_shift_12 : decode cX4_shift 12 = .ok (.invokevirtual 84, 3) := by decide +kernel
theorem dX4_shift_15 : decode cX4_shift 15 = .ok (.ifCond .eq 7, 3) := by decide +kernel
theorem dX4_shift_18 : decode cX4_shift 18 = .ok (.iconst 0, 1) := by decide +kernel
theorem dX4_shift_19 : decode cX4_shift 19 = .ok (.goto 9, 3) := by decide +kernel
theorem dX4_shift_22 : decode cX4_shift 22 = .ok (.aload_n 0, 1) := by decide +kernel
theorem dX4_shift_23 : decode cX4_shift 23 = .ok (.getfield 23, 3) := by decide +kernel
theorem dX4_shift_26 : decode cX4_shift 26 = .ok (.iload_n 1, 1) := by decide +kernel
theorem dX4_shift_27 : decode cX4_shift 27 = .ok (.iaload, 1) := by decide +kernel
theorem dX4_shift_28 : decode cX4_shift 28 = .ok (.ireturn, 1) := by decide +kernel
theorem dX4_sleeps_0 : decode cX4_sleeps 0 = .ok (.aload_n 0, 1) := by decide +kernel
theorem dX4_sleeps_1 : decode cX4_sleeps 1 = .ok (.iconst 0, 1) := by decide +kernel
theorem dX4_sleeps_2 : decode cX4_sleeps 2 = .ok (.putfield 64, 3) := by decide +kernel
theorem dX4_sleeps_5 : decode cX4_sleeps 5 = .ok (.aload_n 0, 1) := by decide +kernel
theorem dX4_sleeps_6 : decode cX4_sleeps 6 = .ok (.aload_n 0, 1) := by decide +kernel
theorem dX4_sleeps_7 : decode cX4_sleeps 7 = .ok (.iload_n 1, 1) := by decide +kernel
theorem dX4_sleeps_8 : decode cX4_sleeps 8 = .ok (.invokevirtual 88, 3) := by decide +kernel
theorem dX4_sleeps_11 : decode cX4_sleeps 11 = .ok (.iconst 1, 1) := by decide +kernel
theorem dX4_sleeps_12 : decode cX4_sleeps 12 = .ok (.invokevirtual 84, 3) := by decide +kernel
theorem dX4_sleeps_15 : decode cX4_sleeps 15 = .ok (.ifCond .ne 16, 3) := by decide +kernel
theorem dX4_sleeps_18 : decode cX4_sleeps 18 = .ok (.aload_n 0, 1) := by decide +kernel
theorem dX4_sleeps_19 : decode cX4_sleeps 19 = .ok (.getfield 26, 3) := by decide +kernel
theorem dX4_sleeps_22 : decode cX4_sleeps 22 = .ok (.iload_n 1, 1) := by decide +kernel
theorem dX4_sleeps_23 : decode cX4_sleeps 23 = .ok (.baload, 1) := by decide +kernel
theorem dX4_sleeps_24 : decode cX4_sleeps 24 = .ok (.ifCond .eq 7, 3) := by decide +kernel
theorem dX4_sleeps_27 : decode cX4_sleeps 27 = .ok (.iconst 1, 1) := by decide +kernel
theorem dX4_sleeps_28 : decode cX4_sleeps 28 = .ok (.goto 4, 3) := by decide +kernel
theorem dX4_sleeps_31 : decode cX4_sleeps 31 = .ok (.iconst 0, 1) := by decide +kernel
theorem dX4_sleeps_32 : decode cX4_sleeps 32 = .ok (.ireturn, 1) := by decide +kernel
theorem dX4_add_0 : decode cX4_add 0 = .ok (.aload_n 0, 1) := by decide +kernel
theorem dX4_add_1 : decode cX4_add 1 = .ok (.getfield 36, 3) := by decide +kernel
theorem dX4_add_4 : decode cX4_add 4 = .ok (.aload_n 0, 1) := by decide +kernel
theorem dX4_add_5 : decode cX4_add 5 = .ok (.getfield 74, 3) := by decide +kernel
theorem dX4_add_8 : decode cX4_add 8 = .ok (.iload_n 1, 1) := by decide +kernel
theorem dX4_add_9 : decode cX4_add 9 = .ok (.iastore, 1) := by decide +kernel
theorem dX4_add_10 : decode cX4_add 10 = .ok (.aload_n 0, 1) := by decide +kernel
theorem dX4_add_11 : decode cX4_add 11 = .ok (.getfield 39, 3) := by decide +kernel
theorem dX4_add_14 : decode cX4_add 14 = .ok (.aload_n 0, 1) := by decide +kernel
theorem dX4_add_15 : decode cX4_add 15 = .ok (.getfield 74, 3) := by decide +kernel
theorem dX4_add_18 : decode cX4_add 18 = .ok (.iload_n 2, 1) := by decide +kernel
theorem dX4_add_19 : decode cX4_add 19 = .ok (.iastore, 1) := by decide +kernel
theorem dX4_add_20 : decode cX4_add 20 = .ok (.aload_n 0, 1) := by decide +kernel
theorem dX4_add_21 : decode cX4_add 21 = .ok (.getfield 42, 3) := by decide +kernel
theorem dX4_add_24 : decode cX4_add 24 = .ok (.aload_n 0, 1) := by decide +kernel
theorem dX4_add_25 : decode cX4_add 25 = .ok (.getfield 74, 3) := by decide +kernel
theorem dX4_add_28 : decode cX4_add 28 = .ok (.iload_n 3, 1) := by decide +kernel
theorem dX4_add_29 : decode cX4_add 29 = .ok (.iastore, 1) := by decide +kernel
theorem dX4_add_30 : decode cX4_add 30 = .ok (.aload_n 0, 1) := by decide +kernel
theorem dX4_add_31 : decode cX4_add 31 = .ok (.getfield 45, 3) := by decide +kernel
theorem dX4_add_34 : decode cX4_add 34 = .ok (.aload_n 0, 1) := by decide +kernel
theorem dX4_add_35 : decode cX4_add 35 = .ok (.getfield 74, 3) := by decide +kernel
theorem dX4_add_38 : decode cX4_add 38 = .ok (.iload 4, 2) := by decide +kernel
theorem dX4_add_40 : decode cX4_add 40 = .ok (.iastore, 1) := by decide +kernel
theorem dX4_add_41 : decode cX4_add 41 = .ok (.aload_n 0, 1) := by decide +kernel
theorem dX4_add_42 : decode cX4_add 42 = .ok (.dup, 1) := by decide +kernel
theorem dX4_add_43 : decode cX4_add 43 = .ok (.getfield 74, 3) := by decide +kernel
theorem dX4_add_46 : decode cX4_add 46 = .ok (.iconst 1, 1) := by decide +kernel
theorem dX4_add_47 : decode cX4_add 47 = .ok (.iadd, 1) := by decide +kernel
theorem dX4_add_48 : decode cX4_add 48 = .ok (.putfield 74, 3) := by decide +kernel
theorem dX4_add_51 : decode cX4_add 51 = .ok (.aload_n 0, 1) := by decide +kernel
theorem dX4_add_52 : decode cX4_add 52 = .ok (.getfield 74, 3) := by decide +kernel
theorem dX4_add_55 : decode cX4_add 55 = .ok (.iconst 1, 1) := by decide +kernel
theorem dX4_add_56 : decode cX4_add 56 = .ok (.isub, 1) := by decide +kernel
theorem dX4_add_57 : decode cX4_add 57 = .ok (.ireturn, 1) := by decide +kernel
theorem dX4_post_0 : decode cX4_post 0 = .ok (.aload_n 0, 1) := by decide +kernel
theorem dX4_post_1 : decode cX4_post 1 = .ok (.iconst 0, 1) := by decide +kernel
theorem dX4_post_2 : decode cX4_post 2 = .ok (.putfield 64, 3) := by decide +kernel
theorem dX4_post_5 : decode cX4_post 5 = .ok (.iload_n 1, 1) := by decide +kernel
theorem dX4_post_6 : decode cX4_post 6 = .ok (.iconst 0, 1) := by decide +kernel
theorem dX4_post_7 : decode cX4_post 7 = .ok (.bipush 9, 2) := by decide +kernel
theorem dX4_post_9 : decode cX4_post 9 = .ok (.invokestatic 70, 3) := by decide +kernel
theorem dX4_post_12 : decode cX4_post 12 = .ok (.ifCond .eq 40, 3) := by decide +kernel
theorem dX4_post_15 : decode cX4_post 15 = .ok (.iload_n 2, 1) := by decide +kernel
theorem dX4_post_16 : decode cX4_post 16 = .ok (.ifCond .eq 36, 3) := by decide +kernel
theorem dX4_post_19 : decode cX4_post 19 = .ok (.iload_n 3, 1) := by decide +kernel
theorem dX4_post_20 : decode cX4_post 20 = .ok (.iconst 0, 1) := by decide +kernel
theorem dX4_post_21 : decode cX4_post 21 = .ok (.sipush 2000, 3) := by decide +kernel
theorem dX4_post_24 : decode cX4_post 24 = .ok (.invokestatic 70, 3) := by decide +kernel
theorem dX4_post_27 : decode cX4_post 27 = .ok (.ifCond .eq 25, 3) := by decide +kernel
theorem dX4_post_30 : decode cX4_post 30 = .ok (.iload 4, 2) := by decide +kernel
theorem dX4_post_32 : decode cX4_post 32 = .ok (.iconst 0, 1) := by decide +kernel
theorem dX4_post_33 : decode cX4_post 33 = .ok (.sipush 2000, 3) := by decide +kernel
theorem dX4_post_36 : decode cX4_post 36 = .ok (.invokestatic 70, 3) := by decide +kernel
theorem dX4_post_39 : decode cX4_post 39 = .ok (.ifCond .eq 13, 3) := by decide +kernel
theorem dX4_post_42 : decode cX4_post 42 = .ok (.iload_n 3, 1) := by decide +kernel
theorem dX4_post_43 : decode cX4_post 43 = .ok (.iload 4, 2) := by decide +kernel
theorem dX4_post_45 : decode cX4_post 45 = .ok (.if_icmp .ge 7, 3) := by decide +kernel
theorem dX4_post_48 : decode cX4_post 48 = .ok (.iconst 1, 1) := by decide +kernel
theorem dX4_post_49 : decode cX4_post 49 = .ok (.goto 4, 3) := by decide +kernel
theorem dX4_post_52 : decode cX4_post 52 = .ok (.iconst 0, 1) := by decide +kernel
theorem dX4_post_53 : decode cX4_post 53 = .ok (.istore 5, 2) := by decide +kernel
theorem dX4_post_55 : decode cX4_post 55 = .ok (.aload_n 0, 1) := by decide +kernel
theorem dX4_post_56 : decode cX4_post 56 = .ok (.iload 5, 2) := by decide +kernel
theorem dX4_post_58 : decode cX4_post 58 = .ok (.ifCond .ne 7, 3) := by decide +kernel
theorem dX4_post_61 : decode cX4_post 61 = .ok (.iconst 1, 1) := by decide +kernel
theorem dX4_post_62 : decode cX4_post 62 = .ok (.goto 4, 3) := by decide +kernel
theorem dX4_post_65 : decode cX4_post 65 = .ok (.iconst 0, 1) := by decide +kernel
theorem dX4_post_66 : decode cX4_post 66 = .ok (.iconst 1, 1) := by decide +kernel
theorem dX4_post_67 : decode cX4_post 67 = .ok (.invokevirtual 84, 3) := by decide +kernel
theorem dX4_post_70 : decode cX4_post 70 = .ok (.ifCond .ne 25, 3) := by decide +kernel
theorem dX4_post_73 : decode cX4_post 73 = .ok (.aload_n 0, 1) := by decide +kernel
theorem dX4_post_74 : decode cX4_post 74 = .ok (.aload_n 0, 1) := by decide +kernel
theorem dX4_post_75 : decode cX4_post 75 = .ok (.getfield 74, 3) := by decide +kernel
theorem dX4_post_78 : decode cX4_post 78 = .ok (.bipush 40, 2) := by decide +kernel
theorem dX4_post_80 : decode cX4_post 80 = .ok (.if_icmp .ne 7, 3) := by decide +kernel
theorem dX4_post_83 : decode cX4_post 83 = .ok (.iconst 1, 1) := by decide +kernel
theorem dX4_post_84 : decode cX4_post 84 = .ok (.goto 4, 3) := by decide +kernel
theorem dX4_post_87 : decode cX4_post 87 = .ok (.iconst 0, 1) := by decide +kernel
theorem dX4_post_88 : decode cX4_post 88 = .ok (.iconst 2, 1) := by decide +kernel
theorem dX4_post_89 : decode cX4_post 89 = .ok (.invokevirtual 84, 3) := by decide +kernel
theorem dX4_post_92 : decode cX4_post 92 = .ok (.ifCond .eq 7, 3) := by decide +kernel
theorem dX4_post_95 : decode cX4_post 95 = .ok (.iconst 0, 1) := by decide +kernel
theorem dX4_post_96 : decode cX4_post 96 = .ok (.goto 12, 3) := by decide +kernel
theorem dX4_post_99 : decode cX4_post 99 = .ok (.aload_n 0, 1) := by decide +kernel
theorem dX4_post_100 : decode cX4_post 100 = .ok (.iload_n 1, 1) := by decide +kernel
theorem dX4_post_101 : decode cX4_post 101 = .ok (.iload_n 2, 1) := by decide +kernel
theorem dX4_post_102 : decode cX4_post 102 = .ok (.iload_n 3, 1) := by decide +kernel
theorem dX4_post_103 : decode cX4_post 103 = .ok (.iload 4, 2) := by decide +kernel
theorem dX4_post_105 : decode cX4_post 105 = .ok (.invokevirtual 94, 3) := by decide +kernel
theorem dX4_post_108 : decode cX4_post 108 = .ok (.ireturn, 1) := by decide +kernel
theorem dX4_queue_0 : decode cX4_queue 0 = .ok (.aload_n 0, 1) := by decide +kernel
theorem dX4_queue_1 : decode cX4_queue 1 = .ok (.iconst 0, 1) := by decide +kernel
theorem dX4_queue_2 : decode cX4_queue 2 = .ok (.putfield 64, 3) := by decide +kernel
theorem dX4_queue_5 : decode cX4_queue 5 = .ok (.aload_n 0, 1) := by decide +kernel
theorem dX4_queue_6 : decode cX4_queue 6 = .ok (.aload_n 0, 1) := by decide +kernel
theorem dX4_queue_7 : decode cX4_queue 7 = .ok (.iload_n 1, 1) := by decide +kernel
theorem dX4_queue_8 : decode cX4_queue 8 = .ok (.invokevirtual 98, 3) := by decide +kernel
theorem dX4_queue_11 : decode cX4_queue 11 = .ok (.iconst 1, 1) := by decide +kernel
theorem dX4_queue_12 : decode cX4_queue 12 = .ok (.invokevirtual 84, 3) := by decide +kernel
theorem dX4_queue_15 : decode cX4_queue 15 = .ok (.ifCond .ne 46, 3) := by decide +kernel
theorem dX4_queue_18 : decode cX4_queue 18 = .ok (.aload_n 0, 1) := by decide +kernel
theorem dX4_queue_19 : decode cX4_queue 19 = .ok (.iload_n 2, 1) := by decide +kernel
theorem dX4_queue_20 : decode cX4_queue 20 = .ok (.invokestatic 80, 3) := by decide +kernel
theorem dX4_queue_23 : decode cX4_queue 23 = .ok (.iconst 2, 1) := by decide +kernel
theorem dX4_queue_24 : decode cX4_queue 24 = .ok (.invokevirtual 84, 3) := by decide +kernel
theorem dX4_queue_27 : decode cX4_queue 27 = .ok (.ifCond .ne 34, 3) := by decide +kernel
theorem dX4_queue_30 : decode cX4_queue 30 = .ok (.aload_n 0, 1) := by decide +kernel
theorem dX4_queue_31 : decode cX4_queue 31 = .ok (.aload_n 0, 1) := by decide +kernel
theorem dX4_queue_32 : decode cX4_queue 32 = .ok (.getfield 48, 3) := by decide +kernel
theorem dX4_queue_35 : decode cX4_queue 35 = .ok (.iload_n 1, 1) := by decide +kernel
theorem dX4_queue_36 : decode cX4_queue 36 = .ok (.baload, 1) := by decide +kernel
theorem dX4_queue_37 : decode cX4_queue 37 = .ok (.ifCond .ne 12, 3) := by decide +kernel
theorem dX4_queue_40 : decode cX4_queue 40 = .ok (.aload_n 0, 1) := by decide +kernel
theorem dX4_queue_41 : decode cX4_queue 41 = .ok (.getfield 51, 3) := by decide +kernel
theorem dX4_queue_44 : decode cX4_queue 44 = .ok (.iload_n 1, 1) := by decide +kernel
theorem dX4_queue_45 : decode cX4_queue 45 = .ok (.baload, 1) := by decide +kernel
theorem dX4_queue_46 : decode cX4_queue 46 = .ok (.ifCond .eq 7, 3) := by decide +kernel
theorem dX4_queue_49 : decode cX4_queue 49 = .ok (.iconst 1, 1) := by decide +kernel
theorem dX4_queue_50 : decode cX4_queue 50 = .ok (.goto 4, 3) := by decide +kernel
theorem dX4_queue_53 : decode cX4_queue 53 = .ok (.iconst 0, 1) := by decide +kernel
theorem dX4_queue_54 : decode cX4_queue 54 = .ok (.iconst 3, 1) := by decide +kernel
theorem dX4_queue_55 : decode cX4_queue 55 = .ok (.invokevirtual 84, 3) := by decide +kernel
theorem dX4_queue_58 : decode cX4_queue 58 = .ok (.ifCond .eq 5, 3) := by decide +kernel
theorem dX4_queue_61 : decode cX4_queue 61 = .ok (.iconst 0, 1) := by decide +kernel
theorem dX4_queue_62 : decode cX4_queue 62 = .ok (.ireturn, 1) := by decide +kernel
theorem dX4_queue_63 : decode cX4_queue 63 = .ok (.aload_n 0, 1) := by decide +kernel
theorem dX4_queue_64 : decode cX4_queue 64 = .ok (.getfield 54, 3) := by decide +kernel
theorem dX4_queue_67 : decode cX4_queue 67 = .ok (.iconst 4, 1) := by decide +kernel
theorem dX4_queue_68 : decode cX4_queue 68 = .ok (.iload_n 1, 1) := by decide +kernel
theorem dX4_queue_69 : decode cX4_queue 69 = .ok (.imul, 1) := by decide +kernel
theorem dX4_queue_70 : decode cX4_queue 70 = .ok (.iload_n 2, 1) := by decide +kernel
theorem dX4_queue_71 : decode cX4_queue 71 = .ok (.iadd, 1) := by decide +kernel
theorem dX4_queue_72 : decode cX4_queue 72 = .ok (.baload, 1) := by decide +kernel
theorem dX4_queue_73 : decode cX4_queue 73 = .ok (.istore_n 3, 1) := by decide +kernel
theorem dX4_queue_74 : decode cX4_queue 74 = .ok (.aload_n 0, 1) := by decide +kernel
theorem dX4_queue_75 : decode cX4_queue 75 = .ok (.getfield 54, 3) := by decide +kernel
theorem dX4_queue_78 : decode cX4_queue 78 = .ok (.iconst 4, 1) := by decide +kernel
theorem dX4_queue_79 : decode cX4_queue 79 = .ok (.iload_n 1, 1) := by decide +kernel
theorem dX4_queue_80 : decode cX4_queue 80 = .ok (.imul, 1) := by decide +kernel
theorem dX4_queue_81 : decode cX4_queue 81 = .ok (.iload_n 2, 1) := by decide +kernel
theorem dX4_queue_82 : decode cX4_queue 82 = .ok (.iadd, 1) := by decide +kernel
theorem dX4_queue_83 : decode cX4_queue 83 = .ok (.iconst 1, 1) := by decide +kernel
theorem dX4_queue_84 : decode cX4_queue 84 = .ok (.bastore, 1) := by decide +kernel
theorem dX4_queue_85 : decode cX4_queue 85 = .ok (.iload_n 3, 1) := by decide +kernel
theorem dX4_queue_86 : decode cX4_queue 86 = .ok (.ifCond .ne 7, 3) := by decide +kernel
theorem dX4_queue_89 : decode cX4_queue 89 = .ok (.iconst 1, 1) := by decide +kernel
theorem dX4_queue_90 : decode cX4_queue 90 = .ok (.goto 4, 3) := by decide +kernel
theorem dX4_queue_93 : decode cX4_queue 93 = .ok (.iconst 0, 1) := by decide +kernel
theorem dX4_queue_94 : decode cX4_queue 94 = .ok (.ireturn, 1) := by decide +kernel
theorem dX4_takeBack_0 : decode cX4_takeBack 0 = .ok (.aload_n 0, 1) := by decide +kernel
theorem dX4_takeBack_1 : decode cX4_takeBack 1 = .ok (.iconst 0, 1) := by decide +kernel
theorem dX4_takeBack_2 : decode cX4_takeBack 2 = .ok (.putfield 64, 3) := by decide +kernel
theorem dX4_takeBack_5 : decode cX4_takeBack 5 = .ok (.aload_n 0, 1) := by decide +kernel
theorem dX4_takeBack_6 : decode cX4_takeBack 6 = .ok (.aload_n 0, 1) := by decide +kernel
theorem dX4_takeBack_7 : decode cX4_takeBack 7 = .ok (.iload_n 1, 1) := by decide +kernel
theorem dX4_takeBack_8 : decode cX4_takeBack 8 = .ok (.invokevirtual 98, 3) := by decide +kernel
theorem dX4_takeBack_11 : decode cX4_takeBack 11 = .ok (.iconst 1, 1) := by decide +kernel
theorem dX4_takeBack_12 : decode cX4_takeBack 12 = .ok (.invokevirtual 84, 3) := by decide +kernel
theorem dX4_takeBack_15 : decode cX4_takeBack 15 = .ok (.ifCond .ne 48, 3) := by decide +kernel
theorem dX4_takeBack_18 : decode cX4_takeBack 18 = .ok (.aload_n 0, 1) := by decide +kernel
theorem dX4_takeBack_19 : decode cX4_takeBack 19 = .ok (.iload_n 2, 1) := by decide +kernel
theorem dX4_takeBack_20 : decode cX4_takeBack 20 = .ok (.aload_n 0, 1) := by decide +kernel
theorem dX4_takeBack_21 : decode cX4_takeBack 21 = .ok (.getfield 101, 3) := by decide +kernel
theorem dX4_takeBack_24 : decode cX4_takeBack 24 = .ok (.if_icmp .le 13, 3) := by decide +kernel
theorem dX4_takeBack_27 : decode cX4_takeBack 27 = .ok (.iload_n 2, 1) := by decide +kernel
theorem dX4_takeBack_28 : decode cX4_takeBack 28 = .ok (.aload_n 0, 1) := by decide +kernel
theorem dX4_takeBack_29 : decode cX4_takeBack 29 = .ok (.getfield 45, 3) := by decide +kernel
theorem dX4_takeBack_32 : decode cX4_takeBack 32 = .ok (.iload_n 1, 1) := by decide +kernel
theorem dX4_takeBack_33 : decode cX4_takeBack 33 = .ok (.iaload, 1) := by decide +kernel
theorem dX4_takeBack_34 : decode cX4_takeBack 34 = .ok (.if_icmp .le 7, 3) := by decide +kernel
theorem dX4_takeBack_37 : decode cX4_takeBack 37 = .ok (.iconst 1, 1) := by decide +kernel
theorem dX4_takeBack_38 : decode cX4_takeBack 38 = .ok (.goto 4, 3) := by decide +kernel
theorem dX4_takeBack_41 : decode cX4_takeBack 41 = .ok (.iconst 0, 1) := by decide +kernel
theorem dX4_takeBack_42 : decode cX4_takeBack 42 = .ok (.iconst 2, 1) := by decide +kernel
theorem dX4_takeBack_43 : decode cX4_takeBack 43 = .ok (.invokevirtual 84, 3) := by decide +kernel
theorem dX4_takeBack_46 : decode cX4_takeBack 46 = .ok (.ifCond .ne 17, 3) := by decide +kernel
theorem dX4_takeBack_49 : decode cX4_takeBack 49 = .ok (.aload_n 0, 1) := by decide +kernel
theorem dX4_takeBack_50 : decode cX4_takeBack 50 = .ok (.aload_n 0, 1) := by decide +kernel
theorem dX4_takeBack_51 : decode cX4_takeBack 51 = .ok (.getfield 51, 3) := by decide +kernel
theorem dX4_takeBack_54 : decode cX4_takeBack 54 = .ok (.iload_n 1, 1) := by decide +kernel
theorem dX4_takeBack_55 : decode cX4_takeBack 55 = .ok (.baload, 1) := by decide +kernel
theorem dX4_takeBack_56 : decode cX4_takeBack 56 = .ok (.iconst 3, 1) := by decide +kernel
theorem dX4_takeBack_57 : decode cX4_takeBack 57 = .ok (.invokevirtual 84, 3) := by decide +kernel
theorem dX4_takeBack_60 : decode cX4_takeBack 60 = .ok (.ifCond .eq 5, 3) := by decide +kernel
theorem dX4_takeBack_63 : decode cX4_takeBack 63 = .ok (.iconst 0, 1) := by decide +kernel
theorem dX4_takeBack_64 : decode cX4_takeBack 64 = .ok (.ireturn, 1) := by decide +kernel
theorem dX4_takeBack_65 : decode cX4_takeBack 65 = .ok (.aload_n 0, 1) := by decide +kernel
theorem dX4_takeBack_66 : decode cX4_takeBack 66 = .ok (.getfield 45, 3) := by decide +kernel
theorem dX4_takeBack_69 : decode cX4_takeBack 69 = .ok (.iload_n 1, 1) := by decide +kernel
theorem dX4_takeBack_70 : decode cX4_takeBack 70 = .ok (.iload_n 2, 1) := by decide +kernel
theorem dX4_takeBack_71 : decode cX4_takeBack 71 = .ok (.iastore, 1) := by decide +kernel
theorem dX4_takeBack_72 : decode cX4_takeBack 72 = .ok (.aload_n 0, 1) := by decide +kernel
theorem dX4_takeBack_73 : decode cX4_takeBack 73 = .ok (.getfield 48, 3) := by decide +kernel
theorem dX4_takeBack_76 : decode cX4_takeBack 76 = .ok (.iload_n 1, 1) := by decide +kernel
theorem dX4_takeBack_77 : decode cX4_takeBack 77 = .ok (.iconst 1, 1) := by decide +kernel
theorem dX4_takeBack_78 : decode cX4_takeBack 78 = .ok (.bastore, 1) := by decide +kernel
theorem dX4_takeBack_79 : decode cX4_takeBack 79 = .ok (.iconst 0, 1) := by decide +kernel
theorem dX4_takeBack_80 : decode cX4_takeBack 80 = .ok (.istore_n 3, 1) := by decide +kernel
theorem dX4_takeBack_81 : decode cX4_takeBack 81 = .ok (.iconst 0, 1) := by decide +kernel
theorem dX4_takeBack_82 : decode cX4_takeBack 82 = .ok (.istore 4, 2) := by decide +kernel
theorem dX4_takeBack_84 : decode cX4_takeBack 84 = .ok (.iload 4, 2) := by decide +kernel
theorem dX4_takeBack_86 : decode cX4_takeBack 86 = .ok (.aload_n 0, 1) := by decide +kernel
theorem dX4_takeBack_87 : decode cX4_takeBack 87 = .ok (.getfield 67, 3) := by decide +kernel
theorem dX4_takeBack_90 : decode cX4_takeBack 90 = .ok (.if_icmp .ge 28, 3) := by decide +kernel
theorem dX4_takeBack_93 : decode cX4_takeBack 93 = .ok (.iload_n 3, 1) := by decide +kernel
theorem dX4_takeBack_94 : decode cX4_takeBack 94 = .ok (.aload_n 0, 1) := by decide +kernel
theorem dX4_takeBack_95 : decode cX4_takeBack 95 = .ok (.getfield 20, 3) := by decide +kernel
theorem dX4_takeBack_98 : decode cX4_takeBack 98 = .ok (.iload 4, 2) := by decide +kernel
theorem dX4_takeBack_100 : decode cX4_takeBack 100 = .ok (.iaload, 1) := by decide +kernel
theorem dX4_takeBack_101 : decode cX4_takeBack 101 = .ok (.iload_n 1, 1) := by decide +kernel
theorem dX4_takeBack_102 : decode cX4_takeBack 102 = .ok (.if_icmp .ne 7, 3) := by decide +kernel
theorem dX4_takeBack_105 : decode cX4_takeBack 105 = .ok (.iconst 1, 1) := by decide +kernel
theorem dX4_takeBack_106 : decode cX4_takeBack 106 = .ok (.goto 4, 3) := by decide +kernel
theorem dX4_takeBack_109 : decode cX4_takeBack 109 = .ok (.iconst 0, 1) := by decide +kernel
theorem dX4_takeBack_110 : decode cX4_takeBack 110 = .ok (.iadd, 1) := by decide +kernel
theorem dX4_takeBack_111 : decode cX4_takeBack 111 = .ok (.istore_n 3, 1) := by decide +kernel
theorem dX4_takeBack_112 : decode cX4_takeBack 112 = .ok (.iinc 4 1, 3) := by decide +kernel
theorem dX4_takeBack_115 : decode cX4_takeBack 115 = .ok (.goto (-31), 3) := by decide +kernel
theorem dX4_takeBack_118 : decode cX4_takeBack 118 = .ok (.iload_n 3, 1) := by decide +kernel
theorem dX4_takeBack_119 : decode cX4_takeBack 119 = .ok (.ireturn, 1) := by decide +kernel
theorem dX4_readersOf_0 : decode cX4_readersOf 0 = .ok (.iconst 0, 1) := by decide +kernel
theorem dX4_readersOf_1 : decode cX4_readersOf 1 = .ok (.istore_n 3, 1) := by decide +kernel
theorem dX4_readersOf_2 : decode cX4_readersOf 2 = .ok (.iconst 0, 1) := by decide +kernel
theorem dX4_readersOf_3 : decode cX4_readersOf 3 = .ok (.istore 4, 2) := by decide +kernel
theorem dX4_readersOf_5 : decode cX4_readersOf 5 = .ok (.iload 4, 2) := by decide +kernel
theorem dX4_readersOf_7 : decode cX4_readersOf 7 = .ok (.aload_n 0, 1) := by decide +kernel
theorem dX4_readersOf_8 : decode cX4_readersOf 8 = .ok (.getfield 67, 3) := by decide +kernel
theorem dX4_readersOf_11 : decode cX4_readersOf 11 = .ok (.if_icmp .ge 39, 3) := by decide +kernel
theorem dX4_readersOf_14 : decode cX4_readersOf 14 = .ok (.iload_n 3, 1) := by decide +kernel
theorem dX4_readersOf_15 : decode cX4_readersOf 15 = .ok (.aload_n 0, 1) := by decide +kernel
theorem dX4_readersOf_16 : decode cX4_readersOf 16 = .ok (.getfield 13, 3) := by decide +kernel
theorem dX4_readersOf_19 : decode cX4_readersOf 19 = .ok (.iload 4, 2) := by decide +kernel
theorem dX4_readersOf_21 : decode cX4_readersOf 21 = .ok (.iaload, 1) := by decide +kernel
theorem dX4_readersOf_22 : decode cX4_readersOf 22 = .ok (.iload_n 2, 1) := by decide +kernel
theorem dX4_readersOf_23 : decode cX4_readersOf 23 = .ok (.if_icmp .ne 18, 3) := by decide +kernel
theorem dX4_readersOf_26 : decode cX4_readersOf 26 = .ok (.aload_n 0, 1) := by decide +kernel
theorem dX4_readersOf_27 : decode cX4_readersOf 27 = .ok (.getfield 57, 3) := by decide +kernel
theorem dX4_readersOf_30 : decode cX4_readersOf 30 = .ok (.bipush 6, 2) := by decide +kernel
theorem dX4_readersOf_32 : decode cX4_readersOf 32 = .ok (.iload_n 1, 1) := by decide +kernel
theorem dX4_readersOf_33 : decode cX4_readersOf 33 = .ok (.imul, 1) := by decide +kernel
theorem dX4_readersOf_34 : decode cX4_readersOf 34 = .ok (.iload 4, 2) := by decide +kernel
theorem dX4_readersOf_36 : decode cX4_readersOf 36 = .ok (.iadd, 1) := by decide +kernel
theorem dX4_readersOf_37 : decode cX4_readersOf 37 = .ok (.iaload, 1) := by decide +kernel
theorem dX4_readersOf_38 : decode cX4_readersOf 38 = .ok (.goto 4, 3) := by decide +kernel
theorem dX4_readersOf_41 : decode cX4_readersOf 41 = .ok (.iconst 0, 1) := by decide +kernel
theorem dX4_readersOf_42 : decode cX4_readersOf 42 = .ok (.iadd, 1) := by decide +kernel
theorem dX4_readersOf_43 : decode cX4_readersOf 43 = .ok (.istore_n 3, 1) := by decide +kernel
theorem dX4_readersOf_44 : decode cX4_readersOf 44 = .ok (.iinc 4 1, 3) := by decide +kernel
theorem dX4_readersOf_47 : decode cX4_readersOf 47 = .ok (.goto (-42), 3) := by decide +kernel
theorem dX4_readersOf_50 : decode cX4_readersOf 50 = .ok (.iload_n 3, 1) := by decide +kernel
theorem dX4_readersOf_51 : decode cX4_readersOf 51 = .ok (.ireturn, 1) := by decide +kernel
theorem dX4_mend_0 : decode cX4_mend 0 = .ok (.aload_n 0, 1) := by decide +kernel
theorem dX4_mend_1 : decode cX4_mend 1 = .ok (.iconst 0, 1) := by decide +kernel
theorem dX4_mend_2 : decode cX4_mend 2 = .ok (.putfield 64, 3) := by decide +kernel
theorem dX4_mend_5 : decode cX4_mend 5 = .ok (.aload_n 0, 1) := by decide +kernel
theorem dX4_mend_6 : decode cX4_mend 6 = .ok (.aload_n 0, 1) := by decide +kernel
theorem dX4_mend_7 : decode cX4_mend 7 = .ok (.iload_n 1, 1) := by decide +kernel
theorem dX4_mend_8 : decode cX4_mend 8 = .ok (.invokevirtual 98, 3) := by decide +kernel
theorem dX4_mend_11 : decode cX4_mend 11 = .ok (.iconst 1, 1) := by decide +kernel
theorem dX4_mend_12 : decode cX4_mend 12 = .ok (.invokevirtual 84, 3) := by decide +kernel
theorem dX4_mend_15 : decode cX4_mend 15 = .ok (.ifCond .ne 30, 3) := by decide +kernel
theorem dX4_mend_18 : decode cX4_mend 18 = .ok (.aload_n 0, 1) := by decide +kernel
theorem dX4_mend_19 : decode cX4_mend 19 = .ok (.iload_n 2, 1) := by decide +kernel
theorem dX4_mend_20 : decode cX4_mend 20 = .ok (.ifCond .eq 13, 3) := by decide +kernel
theorem dX4_mend_23 : decode cX4_mend 23 = .ok (.iload_n 2, 1) := by decide +kernel
theorem dX4_mend_24 : decode cX4_mend 24 = .ok (.aload_n 0, 1) := by decide +kernel
theorem dX4_mend_25 : decode cX4_mend 25 = .ok (.getfield 39, 3) := by decide +kernel
theorem dX4_mend_28 : decode cX4_mend 28 = .ok (.iload_n 1, 1) := by decide +kernel
theorem dX4_mend_29 : decode cX4_mend 29 = .ok (.iaload, 1) := by decide +kernel
theorem dX4_mend_30 : decode cX4_mend 30 = .ok (.if_icmp .ne 7, 3) := by decide +kernel
theorem dX4_mend_33 : decode cX4_mend 33 = .ok (.iconst 1, 1) := by decide +kernel
theorem dX4_mend_34 : decode cX4_mend 34 = .ok (.goto 4, 3) := by decide +kernel
theorem dX4_mend_37 : decode cX4_mend 37 = .ok (.iconst 0, 1) := by decide +kernel
theorem dX4_mend_38 : decode cX4_mend 38 = .ok (.iconst 2, 1) := by decide +kernel
theorem dX4_mend_39 : decode cX4_mend 39 = .ok (.invokevirtual 84, 3) := by decide +kernel
theorem dX4_mend_42 : decode cX4_mend 42 = .ok (.ifCond .eq 5, 3) := by decide +kernel
theorem dX4_mend_45 : decode cX4_mend 45 = .ok (.iconst 0, 1) := by decide +kernel
theorem dX4_mend_46 : decode cX4_mend 46 = .ok (.ireturn, 1) := by decide +kernel
theorem dX4_mend_47 : decode cX4_mend 47 = .ok (.aload_n 0, 1) := by decide +kernel
theorem dX4_mend_48 : decode cX4_mend 48 = .ok (.aload_n 0, 1) := by decide +kernel
theorem dX4_mend_49 : decode cX4_mend 49 = .ok (.getfield 51, 3) := by decide +kernel
theorem dX4_mend_52 : decode cX4_mend 52 = .ok (.iload_n 1, 1) := by decide +kernel
theorem dX4_mend_53 : decode cX4_mend 53 = .ok (.baload, 1) := by decide +kernel
theorem dX4_mend_54 : decode cX4_mend 54 = .ok (.ifCond .ne 16, 3) := by decide +kernel
theorem dX4_mend_57 : decode cX4_mend 57 = .ok (.aload_n 0, 1) := by decide +kernel
theorem dX4_mend_58 : decode cX4_mend 58 = .ok (.getfield 101, 3) := by decide +kernel
theorem dX4_mend_61 : decode cX4_mend 61 = .ok (.aload_n 0, 1) := by decide +kernel
theorem dX4_mend_62 : decode cX4_mend 62 = .ok (.getfield 45, 3) := by decide +kernel
theorem dX4_mend_65 : decode cX4_mend 65 = .ok (.iload_n 1, 1) := by decide +kernel
theorem dX4_mend_66 : decode cX4_mend 66 = .ok (.iaload, 1) := by decide +kernel
theorem dX4_mend_67 : decode cX4_mend 67 = .ok (.if_icmp .lt 7, 3) := by decide +kernel
theorem dX4_mend_70 : decode cX4_mend 70 = .ok (.iconst 1, 1) := by decide +kernel
theorem dX4_mend_71 : decode cX4_mend 71 = .ok (.goto 4, 3) := by decide +kernel
theorem dX4_mend_74 : decode cX4_mend 74 = .ok (.iconst 0, 1) := by decide +kernel
theorem dX4_mend_75 : decode cX4_mend 75 = .ok (.iconst 3, 1) := by decide +kernel
theorem dX4_mend_76 : decode cX4_mend 76 = .ok (.invokevirtual 84, 3) := by decide +kernel
theorem dX4_mend_79 : decode cX4_mend 79 = .ok (.ifCond .ne 25, 3) := by decide +kernel
theorem dX4_mend_82 : decode cX4_mend 82 = .ok (.aload_n 0, 1) := by decide +kernel
theorem dX4_mend_83 : decode cX4_mend 83 = .ok (.aload_n 0, 1) := by decide +kernel
theorem dX4_mend_84 : decode cX4_mend 84 = .ok (.getfield 74, 3) := by decide +kernel
theorem dX4_mend_87 : decode cX4_mend 87 = .ok (.bipush 40, 2) := by decide +kernel
theorem dX4_mend_89 : decode cX4_mend 89 = .ok (.if_icmp .ne 7, 3) := by decide +kernel
theorem dX4_mend_92 : decode cX4_mend 92 = .ok (.iconst 1, 1) := by decide +kernel
theorem dX4_mend_93 : decode cX4_mend 93 = .ok (.goto 4, 3) := by decide +kernel
theorem dX4_mend_96 : decode cX4_mend 96 = .ok (.iconst 0, 1) := by decide +kernel
theorem dX4_mend_97 : decode cX4_mend 97 = .ok (.iconst 4, 1) := by decide +kernel
theorem dX4_mend_98 : decode cX4_mend 98 = .ok (.invokevirtual 84, 3) := by decide +kernel
theorem dX4_mend_101 : decode cX4_mend 101 = .ok (.ifCond .eq 5, 3) := by decide +kernel
theorem dX4_mend_104 : decode cX4_mend 104 = .ok (.iconst 0, 1) := by decide +kernel
theorem dX4_mend_105 : decode cX4_mend 105 = .ok (.ireturn, 1) := by decide +kernel
theorem dX4_mend_106 : decode cX4_mend 106 = .ok (.aload_n 0, 1) := by decide +kernel
theorem dX4_mend_107 : decode cX4_mend 107 = .ok (.bipush 10, 2) := by decide +kernel
theorem dX4_mend_109 : decode cX4_mend 109 = .ok (.aload_n 0, 1) := by decide +kernel
theorem dX4_mend_110 : decode cX4_mend 110 = .ok (.getfield 36, 3) := by decide +kernel
theorem dX4_mend_113 : decode cX4_mend 113 = .ok (.iload_n 1, 1) := by decide +kernel
theorem dX4_mend_114 : decode cX4_mend 114 = .ok (.iaload, 1) := by decide +kernel
theorem dX4_mend_115 : decode cX4_mend 115 = .ok (.iconst 1, 1) := by decide +kernel
theorem dX4_mend_116 : decode cX4_mend 116 = .ok (.iadd, 1) := by decide +kernel
theorem dX4_mend_117 : decode cX4_mend 117 = .ok (.invokestatic 104, 3) := by decide +kernel
theorem dX4_mend_120 : decode cX4_mend 120 = .ok (.iload_n 2, 1) := by decide +kernel
theorem dX4_mend_121 : decode cX4_mend 121 = .ok (.aload_n 0, 1) := by decide +kernel
theorem dX4_mend_122 : decode cX4_mend 122 = .ok (.getfield 101, 3) := by decide +kernel
theorem dX4_mend_125 : decode cX4_mend 125 = .ok (.aload_n 0, 1) := by decide +kernel
theorem dX4_mend_126 : decode cX4_mend 126 = .ok (.getfield 42, 3) := by decide +kernel
theorem dX4_mend_129 : decode cX4_mend 129 = .ok (.iload_n 1, 1) := by decide +kernel
theorem dX4_mend_130 : decode cX4_mend 130 = .ok (.iaload, 1) := by decide +kernel
theorem dX4_mend_131 : decode cX4_mend 131 = .ok (.invokestatic 108, 3) := by decide +kernel
theorem dX4_mend_134 : decode cX4_mend 134 = .ok (.aload_n 0, 1) := by decide +kernel
theorem dX4_mend_135 : decode cX4_mend 135 = .ok (.getfield 45, 3) := by decide +kernel
theorem dX4_mend_138 : decode cX4_mend 138 = .ok (.iload_n 1, 1) := by decide +kernel
theorem dX4_mend_139 : decode cX4_mend 139 = .ok (.iaload, 1) := by decide +kernel
theorem dX4_mend_140 : decode cX4_mend 140 = .ok (.invokevirtual 94, 3) := by decide +kernel
theorem dX4_mend_143 : decode cX4_mend 143 = .ok (.istore_n 3, 1) := by decide +kernel
theorem dX4_mend_144 : decode cX4_mend 144 = .ok (.iconst 0, 1) := by decide +kernel
theorem dX4_mend_145 : decode cX4_mend 145 = .ok (.istore 4, 2) := by decide +kernel
theorem dX4_mend_147 : decode cX4_mend 147 = .ok (.iload 4, 2) := by decide +kernel
theorem dX4_mend_149 : decode cX4_mend 149 = .ok (.iconst 4, 1) := by decide +kernel
theorem dX4_mend_150 : decode cX4_mend 150 = .ok (.if_icmp .ge 49, 3) := by decide +kernel
theorem dX4_mend_153 : decode cX4_mend 153 = .ok (.aload_n 0, 1) := by decide +kernel
theorem dX4_mend_154 : decode cX4_mend 154 = .ok (.getfield 54, 3) := by decide +kernel
theorem dX4_mend_157 : decode cX4_mend 157 = .ok (.iconst 4, 1) := by decide +kernel
theorem dX4_mend_158 : decode cX4_mend 158 = .ok (.iload_n 3, 1) := by decide +kernel
theorem dX4_mend_159 : decode cX4_mend 159 = .ok (.imul, 1) := by decide +kernel
theorem dX4_mend_160 : decode cX4_mend 160 = .ok (.iload 4, 2) := by decide +kernel
theorem dX4_mend_162 : decode cX4_mend 162 = .ok (.iadd, 1) := by decide +kernel
theorem dX4_mend_163 : decode cX4_mend 163 = .ok (.aload_n 0, 1) := by decide +kernel
theorem dX4_mend_164 : decode cX4_mend 164 = .ok (.getfield 54, 3) := by decide +kernel
theorem dX4_mend_167 : decode cX4_mend 167 = .ok (.iconst 4, 1) := by decide +kernel
theorem dX4_mend_168 : decode cX4_mend 168 = .ok (.iload_n 1, 1) := by decide +kernel
theorem dX4_mend_169 : decode cX4_mend 169 = .ok (.imul, 1) := by decide +kernel
theorem dX4_mend_170 : decode cX4_mend 170 = .ok (.iload 4, 2) := by decide +kernel
theorem dX4_mend_172 : decode cX4_mend 172 = .ok (.iadd, 1) := by decide +kernel
theorem dX4_mend_173 : decode cX4_mend 173 = .ok (.baload, 1) := by decide +kernel
theorem dX4_mend_174 : decode cX4_mend 174 = .ok (.ifCond .eq 17, 3) := by decide +kernel
theorem dX4_mend_177 : decode cX4_mend 177 = .ok (.aload_n 0, 1) := by decide +kernel
theorem dX4_mend_178 : decode cX4_mend 178 = .ok (.iload_n 1, 1) := by decide +kernel
theorem dX4_mend_179 : decode cX4_mend 179 = .ok (.iload 4, 2) := by decide +kernel
theorem dX4_mend_181 : decode cX4_mend 181 = .ok (.invokevirtual 111, 3) := by decide +kernel
theorem dX4_mend_184 : decode cX4_mend 184 = .ok (.ifCond .le 7, 3) := by decide +kernel
theorem dX4_mend_187 : decode cX4_mend 187 = .ok (.iconst 1, 1) := by decide +kernel
theorem dX4_mend_188 : decode cX4_mend 188 = .ok (.goto 4, 3) := by decide +kernel
theorem dX4_mend_191 : decode cX4_mend 191 = .ok (.iconst 0, 1) := by decide +kernel
theorem dX4_mend_192 : decode cX4_mend 192 = .ok (.bastore, 1) := by decide +kernel
theorem dX4_mend_193 : decode cX4_mend 193 = .ok (.iinc 4 1, 3) := by decide +kernel
theorem dX4_mend_196 : decode cX4_mend 196 = .ok (.goto (-49), 3) := by decide +kernel
theorem dX4_mend_199 : decode cX4_mend 199 = .ok (.aload_n 0, 1) := by decide +kernel
theorem dX4_mend_200 : decode cX4_mend 200 = .ok (.getfield 51, 3) := by decide +kernel
theorem dX4_mend_203 : decode cX4_mend 203 = .ok (.iload_n 1, 1) := by decide +kernel
theorem dX4_mend_204 : decode cX4_mend 204 = .ok (.iconst 1, 1) := by decide +kernel
theorem dX4_mend_205 : decode cX4_mend 205 = .ok (.bastore, 1) := by decide +kernel
theorem dX4_mend_206 : decode cX4_mend 206 = .ok (.aload_n 0, 1) := by decide +kernel
theorem dX4_mend_207 : decode cX4_mend 207 = .ok (.getfield 45, 3) := by decide +kernel
theorem dX4_mend_210 : decode cX4_mend 210 = .ok (.iload_n 1, 1) := by decide +kernel
theorem dX4_mend_211 : decode cX4_mend 211 = .ok (.aload_n 0, 1) := by decide +kernel
theorem dX4_mend_212 : decode cX4_mend 212 = .ok (.getfield 101, 3) := by decide +kernel
theorem dX4_mend_215 : decode cX4_mend 215 = .ok (.iconst 1, 1) := by decide +kernel
theorem dX4_mend_216 : decode cX4_mend 216 = .ok (.iadd, 1) := by decide +kernel
theorem dX4_mend_217 : decode cX4_mend 217 = .ok (.iastore, 1) := by decide +kernel
theorem dX4_mend_218 : decode cX4_mend 218 = .ok (.iload_n 3, 1) := by decide +kernel
theorem dX4_mend_219 : decode cX4_mend 219 = .ok (.ireturn, 1) := by decide +kernel
theorem dX4_deny_0 : decode cX4_deny 0 = .ok (.aload_n 0, 1) := by decide +kernel
theorem dX4_deny_1 : decode cX4_deny 1 = .ok (.iconst 0, 1) := by decide +kernel
theorem dX4_deny_2 : decode cX4_deny 2 = .ok (.putfield 64, 3) := by decide +kernel
theorem dX4_deny_5 : decode cX4_deny 5 = .ok (.iload_n 2, 1) := by decide +kernel
theorem dX4_deny_6 : decode cX4_deny 6 = .ok (.invokestatic 80, 3) := by decide +kernel
theorem dX4_deny_9 : decode cX4_deny 9 = .ok (.ifCond .ne 33, 3) := by decide +kernel
theorem dX4_deny_12 : decode cX4_deny 12 = .ok (.iload_n 1, 1) := by decide +kernel
theorem dX4_deny_13 : decode cX4_deny 13 = .ok (.ifCond .eq 29, 3) := by decide +kernel
theorem dX4_deny_16 : decode cX4_deny 16 = .ok (.iload_n 1, 1) := by decide +kernel
theorem dX4_deny_17 : decode cX4_deny 17 = .ok (.iconst (-1), 1) := by decide +kernel
theorem dX4_deny_18 : decode cX4_deny 18 = .ok (.ixor, 1) := by decide +kernel
theorem dX4_deny_19 : decode cX4_deny 19 = .ok (.ifCond .eq 23, 3) := by decide +kernel
theorem dX4_deny_22 : decode cX4_deny 22 = .ok (.iload_n 3, 1) := by decide +kernel
theorem dX4_deny_23 : decode cX4_deny 23 = .ok (.aload_n 0, 1) := by decide +kernel
theorem dX4_deny_24 : decode cX4_deny 24 = .ok (.getfield 101, 3) := by decide +kernel
theorem dX4_deny_27 : decode cX4_deny 27 = .ok (.iconst 1, 1) := by decide +kernel
theorem dX4_deny_28 : decode cX4_deny 28 = .ok (.iadd, 1) := by decide +kernel
theorem dX4_deny_29 : decode cX4_deny 29 = .ok (.sipush 2000, 3) := by decide +kernel
theorem dX4_deny_32 : decode cX4_deny 32 = .ok (.invokestatic 70, 3) := by decide +kernel
theorem dX4_deny_35 : decode cX4_deny 35 = .ok (.ifCond .eq 7, 3) := by decide +kernel
theorem dX4_deny_38 : decode cX4_deny 38 = .ok (.iconst 1, 1) := by decide +kernel
theorem dX4_deny_39 : decode cX4_deny 39 = .ok (.goto 4, 3) := by decide +kernel
theorem dX4_deny_42 : decode cX4_deny 42 = .ok (.iconst 0, 1) := by decide +kernel
theorem dX4_deny_43 : decode cX4_deny 43 = .ok (.istore 4, 2) := by decide +kernel
theorem dX4_deny_45 : decode cX4_deny 45 = .ok (.aload_n 0, 1) := by decide +kernel
theorem dX4_deny_46 : decode cX4_deny 46 = .ok (.iload 4, 2) := by decide +kernel
theorem dX4_deny_48 : decode cX4_deny 48 = .ok (.ifCond .ne 7, 3) := by decide +kernel
theorem dX4_deny_51 : decode cX4_deny 51 = .ok (.iconst 1, 1) := by decide +kernel
theorem dX4_deny_52 : decode cX4_deny 52 = .ok (.goto 4, 3) := by decide +kernel
theorem dX4_deny_55 : decode cX4_deny 55 = .ok (.iconst 0, 1) := by decide +kernel
theorem dX4_deny_56 : decode cX4_deny 56 = .ok (.iconst 1, 1) := by decide +kernel
theorem dX4_deny_57 : decode cX4_deny 57 = .ok (.invokevirtual 84, 3) := by decide +kernel
theorem dX4_deny_60 : decode cX4_deny 60 = .ok (.ifCond .ne 25, 3) := by decide +kernel
theorem dX4_deny_63 : decode cX4_deny 63 = .ok (.aload_n 0, 1) := by decide +kernel
theorem dX4_deny_64 : decode cX4_deny 64 = .ok (.aload_n 0, 1) := by decide +kernel
theorem dX4_deny_65 : decode cX4_deny 65 = .ok (.getfield 74, 3) := by decide +kernel
theorem dX4_deny_68 : decode cX4_deny 68 = .ok (.bipush 40, 2) := by decide +kernel
theorem dX4_deny_70 : decode cX4_deny 70 = .ok (.if_icmp .ne 7, 3) := by decide +kernel
theorem dX4_deny_73 : decode cX4_deny 73 = .ok (.iconst 1, 1) := by decide +kernel
theorem dX4_deny_74 : decode cX4_deny 74 = .ok (.goto 4, 3) := by decide +kernel
theorem dX4_deny_77 : decode cX4_deny 77 = .ok (.iconst 0, 1) := by decide +kernel
theorem dX4_deny_78 : decode cX4_deny 78 = .ok (.iconst 2, 1) := by decide +kernel
theorem dX4_deny_79 : decode cX4_deny 79 = .ok (.invokevirtual 84, 3) := by decide +kernel
theorem dX4_deny_82 : decode cX4_deny 82 = .ok (.ifCond .eq 5, 3) := by decide +kernel
theorem dX4_deny_85 : decode cX4_deny 85 = .ok (.iconst 0, 1) := by decide +kernel
theorem dX4_deny_86 : decode cX4_deny 86 = .ok (.ireturn, 1) := by decide +kernel
theorem dX4_deny_87 : decode cX4_deny 87 = .ok (.aload_n 0, 1) := by decide +kernel
theorem dX4_deny_88 : decode cX4_deny 88 = .ok (.bipush 10, 2) := by decide +kernel
theorem dX4_deny_90 : decode cX4_deny 90 = .ok (.iload_n 1, 1) := by decide +kernel
theorem dX4_deny_91 : decode cX4_deny 91 = .ok (.iconst (-1), 1) := by decide +kernel
theorem dX4_deny_92 : decode cX4_deny 92 = .ok (.ixor, 1) := by decide +kernel
theorem dX4_deny_93 : decode cX4_deny 93 = .ok (.aload_n 0, 1) := by decide +kernel
theorem dX4_deny_94 : decode cX4_deny 94 = .ok (.getfield 101, 3) := by decide +kernel
theorem dX4_deny_97 : decode cX4_deny 97 = .ok (.iload_n 3, 1) := by decide +kernel
theorem dX4_deny_98 : decode cX4_deny 98 = .ok (.invokevirtual 94, 3) := by decide +kernel
theorem dX4_deny_101 : decode cX4_deny 101 = .ok (.istore 5, 2) := by decide +kernel
theorem dX4_deny_103 : decode cX4_deny 103 = .ok (.aload_n 0, 1) := by decide +kernel
theorem dX4_deny_104 : decode cX4_deny 104 = .ok (.getfield 54, 3) := by decide +kernel
theorem dX4_deny_107 : decode cX4_deny 107 = .ok (.iconst 4, 1) := by decide +kernel
theorem dX4_deny_108 : decode cX4_deny 108 = .ok (.iload 5, 2) := by decide +kernel
theorem dX4_deny_110 : decode cX4_deny 110 = .ok (.imul, 1) := by decide +kernel
theorem dX4_deny_111 : decode cX4_deny 111 = .ok (.iload_n 2, 1) := by decide +kernel
theorem dX4_deny_112 : decode cX4_deny 112 = .ok (.iadd, 1) := by decide +kernel
theorem dX4_deny_113 : decode cX4_deny 113 = .ok (.iconst 1, 1) := by decide +kernel
theorem dX4_deny_114 : decode cX4_deny 114 = .ok (.bastore, 1) := by decide +kernel
theorem dX4_deny_115 : decode cX4_deny 115 = .ok (.iload 5, 2) := by decide +kernel
theorem dX4_deny_117 : decode cX4_deny 117 = .ok (.ireturn, 1) := by decide +kernel
theorem dX4_isIn_0 : decode cX4_isIn 0 = .ok (.aload_n 0, 1) := by decide +kernel
theorem dX4_isIn_1 : decode cX4_isIn 1 = .ok (.getfield 54, 3) := by decide +kernel
theorem dX4_isIn_4 : decode cX4_isIn 4 = .ok (.iconst 4, 1) := by decide +kernel
theorem dX4_isIn_5 : decode cX4_isIn 5 = .ok (.iload_n 1, 1) := by decide +kernel
theorem dX4_isIn_6 : decode cX4_isIn 6 = .ok (.imul, 1) := by decide +kernel
theorem dX4_isIn_7 : decode cX4_isIn 7 = .ok (.iload_n 2, 1) := by decide +kernel
theorem dX4_isIn_8 : decode cX4_isIn 8 = .ok (.iadd, 1) := by decide +kernel
theorem dX4_isIn_9 : decode cX4_isIn 9 = .ok (.baload, 1) := by decide +kernel
theorem dX4_isIn_10 : decode cX4_isIn 10 = .ok (.ifCond .eq 20, 3) := by decide +kernel
theorem dX4_isIn_13 : decode cX4_isIn 13 = .ok (.aload_n 0, 1) := by decide +kernel
theorem dX4_isIn_14 : decode cX4_isIn 14 = .ok (.getfield 101, 3) := by decide +kernel
theorem dX4_isIn_17 : decode cX4_isIn 17 = .ok (.aload_n 0, 1) := by decide +kernel
theorem dX4_isIn_18 : decode cX4_isIn 18 = .ok (.getfield 45, 3) := by decide +kernel
theorem dX4_isIn_21 : decode cX4_isIn 21 = .ok (.iload_n 1, 1) := by decide +kernel
theorem dX4_isIn_22 : decode cX4_isIn 22 = .ok (.iaload, 1) := by decide +kernel
theorem dX4_isIn_23 : decode cX4_isIn 23 = .ok (.if_icmp .ge 7, 3) := by decide +kernel
theorem dX4_isIn_26 : decode cX4_isIn 26 = .ok (.iconst 1, 1) := by decide +kernel
theorem dX4_isIn_27 : decode cX4_isIn 27 = .ok (.goto 4, 3) := by decide +kernel
theorem dX4_isIn_30 : decode cX4_isIn 30 = .ok (.iconst 0, 1) := by decide +kernel
theorem dX4_isIn_31 : decode cX4_isIn 31 = .ok (.ireturn, 1) := by decide +kernel
theorem dX4_inQueue_0 : decode cX4_inQueue 0 = .ok (.iload_n 2, 1) := by decide +kernel
theorem dX4_inQueue_1 : decode cX4_inQueue 1 = .ok (.istore_n 3, 1) := by decide +kernel
theorem dX4_inQueue_2 : decode cX4_inQueue 2 = .ok (.bipush 10, 2) := by decide +kernel
theorem dX4_inQueue_4 : decode cX4_inQueue 4 = .ok (.istore 4, 2) := by decide +kernel
theorem dX4_inQueue_6 : decode cX4_inQueue 6 = .ok (.iload 4, 2) := by decide +kernel
theorem dX4_inQueue_8 : decode cX4_inQueue 8 = .ok (.ifCond .lt 59, 3) := by decide +kernel
theorem dX4_inQueue_11 : decode cX4_inQueue 11 = .ok (.iconst 0, 1) := by decide +kernel
theorem dX4_inQueue_12 : decode cX4_inQueue 12 = .ok (.istore 5, 2) := by decide +kernel
theorem dX4_inQueue_14 : decode cX4_inQueue 14 = .ok (.iload 5, 2) := by decide +kernel
theorem dX4_inQueue_16 : decode cX4_inQueue 16 = .ok (.aload_n 0, 1) := by decide +kernel
theorem dX4_inQueue_17 : decode cX4_inQueue 17 = .ok (.getfield 74, 3) := by decide +kernel
theorem dX4_inQueue_20 : decode cX4_inQueue 20 = .ok (.if_icmp .ge 41, 3) := by decide +kernel
theorem dX4_inQueue_23 : decode cX4_inQueue 23 = .ok (.aload_n 0, 1) := by decide +kernel
theorem dX4_inQueue_24 : decode cX4_inQueue 24 = .ok (.getfield 36, 3) := by decide +kernel
theorem dX4_inQueue_27 : decode cX4_inQueue 27 = .ok (.iload 5, 2) := by decide +kernel
theorem dX4_inQueue_29 : decode cX4_inQueue 29 = .ok (.iaload, 1) := by decide +kernel
theorem dX4_inQueue_30 : decode cX4_inQueue 30 = .ok (.iload 4, 2) := by decide +kernel
theorem dX4_inQueue_32 : decode cX4_inQueue 32 = .ok (.if_icmp .ne 23, 3) := by decide +kernel
theorem dX4_inQueue_35 : decode cX4_inQueue 35 = .ok (.aload_n 0, 1) := by decide +kernel
theorem dX4_inQueue_36 : decode cX4_inQueue 36 = .ok (.iload 5, 2) := by decide +kernel
theorem dX4_inQueue_38 : decode cX4_inQueue 38 = .ok (.iload_n 1, 1) := by decide +kernel
theorem dX4_inQueue_39 : decode cX4_inQueue 39 = .ok (.invokevirtual 114, 3) := by decide +kernel
theorem dX4_inQueue_42 : decode cX4_inQueue 42 = .ok (.ifCond .eq 13, 3) := by decide +kernel
theorem dX4_inQueue_45 : decode cX4_inQueue 45 = .ok (.iload_n 3, 1) := by decide +kernel
theorem dX4_inQueue_46 : decode cX4_inQueue 46 = .ok (.ifCond .ne 6, 3) := by decide +kernel
theorem dX4_inQueue_49 : decode cX4_inQueue 49 = .ok (.iload 5, 2) := by decide +kernel
theorem dX4_inQueue_51 : decode cX4_inQueue 51 = .ok (.ireturn, 1) := by decide +kernel
theorem dX4_inQueue_52 : decode cX4_inQueue 52 = .ok (.iinc 3 (-1), 3) := by decide +kernel
theorem dX4_inQueue_55 : decode cX4_inQueue 55 = .ok (.iinc 5 1, 3) := by decide +kernel
theorem dX4_inQueue_58 : decode cX4_inQueue 58 = .ok (.goto (-44), 3) := by decide +kernel
theorem dX4_inQueue_61 : decode cX4_inQueue 61 = .ok (.iinc 4 (-1), 3) := by decide +kernel
theorem dX4_inQueue_64 : decode cX4_inQueue 64 = .ok (.goto (-58), 3) := by decide +kernel
theorem dX4_inQueue_67 : decode cX4_inQueue 67 = .ok (.iconst (-1), 1) := by decide +kernel
theorem dX4_inQueue_68 : decode cX4_inQueue 68 = .ok (.ireturn, 1) := by decide +kernel
theorem dX4_manyQueued_0 : decode cX4_manyQueued 0 = .ok (.iconst 0, 1) := by decide +kernel
theorem dX4_manyQueued_1 : decode cX4_manyQueued 1 = .ok (.istore_n 2, 1) := by decide +kernel
theorem dX4_manyQueued_2 : decode cX4_manyQueued 2 = .ok (.iconst 0, 1) := by decide +kernel
theorem dX4_manyQueued_3 : decode cX4_manyQueued 3 = .ok (.istore_n 3, 1) := by decide +kernel
theorem dX4_manyQueued_4 : decode cX4_manyQueued 4 = .ok (.iload_n 3, 1) := by decide +kernel
theorem dX4_manyQueued_5 : decode cX4_manyQueued 5 = .ok (.aload_n 0, 1) := by decide +kernel
theorem dX4_manyQueued_6 : decode cX4_manyQueued 6 = .ok (.getfield 74, 3) := by decide +kernel
theorem dX4_manyQueued_9 : decode cX4_manyQueued 9 = .ok (.if_icmp .ge 26, 3) := by decide +kernel
theorem dX4_manyQueued_12 : decode cX4_manyQueued 12 = .ok (.iload_n 2, 1) := by decide +kernel
theorem dX4_manyQueued_13 : decode cX4_manyQueued 13 = .ok (.aload_n 0, 1) := by decide +kernel
theorem dX4_manyQueued_14 : decode cX4_manyQueued 14 = .ok (.iload_n 3, 1) := by decide +kernel
theorem dX4_manyQueued_15 : decode cX4_manyQueued 15 = .ok (.iload_n 1, 1) := by decide +kernel
theorem dX4_manyQueued_16 : decode cX4_manyQueued 16 = .ok (.invokevirtual 114, 3) := by decide +kernel
theorem dX4_manyQueued_19 : decode cX4_manyQueued 19 = .ok (.ifCond .eq 7, 3) := by decide +kernel
theorem dX4_manyQueued_22 : decode cX4_manyQueued 22 = .ok (.iconst 1, 1) := by decide +kernel
theorem dX4_manyQueued_23 : decode cX4_manyQueued 23 = .ok (.goto 4, 3) := by decide +kernel
theorem dX4_manyQueued_26 : decode cX4_manyQueued 26 = .ok (.iconst 0, 1) := by decide +kernel
theorem dX4_manyQueued_27 : decode cX4_manyQueued 27 = .ok (.iadd, 1) := by decide +kernel
theorem dX4_manyQueued_28 : decode cX4_manyQueued 28 = .ok (.istore_n 2, 1) := by decide +kernel
theorem dX4_manyQueued_29 : decode cX4_manyQueued 29 = .ok (.iinc 3 1, 3) := by decide +kernel
theorem dX4_manyQueued_32 : decode cX4_manyQueued 32 = .ok (.goto (-28), 3) := by decide +kernel
theorem dX4_manyQueued_35 : decode cX4_manyQueued 35 = .ok (.iload_n 2, 1) := by decide +kernel
theorem dX4_manyQueued_36 : decode cX4_manyQueued 36 = .ok (.ireturn, 1) := by decide +kernel
theorem dX4_queued_0 : decode cX4_queued 0 = .ok (.aload_n 0, 1) := by decide +kernel
theorem dX4_queued_1 : decode cX4_queued 1 = .ok (.iconst 0, 1) := by decide +kernel
theorem dX4_queued_2 : decode cX4_queued 2 = .ok (.putfield 64, 3) := by decide +kernel
theorem dX4_queued_5 : decode cX4_queued 5 = .ok (.aload_n 0, 1) := by decide +kernel
theorem dX4_queued_6 : decode cX4_queued 6 = .ok (.iload_n 1, 1) := by decide +kernel
theorem dX4_queued_7 : decode cX4_queued 7 = .ok (.invokestatic 80, 3) := by decide +kernel
theorem dX4_queued_10 : decode cX4_queued 10 = .ok (.iconst 1, 1) := by decide +kernel
theorem dX4_queued_11 : decode cX4_queued 11 = .ok (.invokevirtual 84, 3) := by decide +kernel
theorem dX4_queued_14 : decode cX4_queued 14 = .ok (.ifCond .eq 7, 3) := by decide +kernel
theorem dX4_queued_17 : decode cX4_queued 17 = .ok (.iconst 0, 1) := by decide +kernel
theorem dX4_queued_18 : decode cX4_queued 18 = .ok (.goto 8, 3) := by decide +kernel
theorem dX4_queued_21 : decode cX4_queued 21 = .ok (.aload_n 0, 1) := by decide +kernel
theorem dX4_queued_22 : decode cX4_queued 22 = .ok (.iload_n 1, 1) := by decide +kernel
theorem dX4_queued_23 : decode cX4_queued 23 = .ok (.invokevirtual 118, 3) := by decide +kernel
theorem dX4_queued_26 : decode cX4_queued 26 = .ok (.ireturn, 1) := by decide +kernel
theorem dX4_queuedAt_0 : decode cX4_queuedAt 0 = .ok (.aload_n 0, 1) := by decide +kernel
theorem dX4_queuedAt_1 : decode cX4_queuedAt 1 = .ok (.iconst 0, 1) := by decide +kernel
theorem dX4_queuedAt_2 : decode cX4_queuedAt 2 = .ok (.putfield 64, 3) := by decide +kernel
theorem dX4_queuedAt_5 : decode cX4_queuedAt 5 = .ok (.aload_n 0, 1) := by decide +kernel
theorem dX4_queuedAt_6 : decode cX4_queuedAt 6 = .ok (.iload_n 1, 1) := by decide +kernel
theorem dX4_queuedAt_7 : decode cX4_queuedAt 7 = .ok (.invokestatic 80, 3) := by decide +kernel
theorem dX4_queuedAt_10 : decode cX4_queuedAt 10 = .ok (.iconst 1, 1) := by decide +kernel
theorem dX4_queuedAt_11 : decode cX4_queuedAt 11 = .ok (.invokevirtual 84, 3) := by decide +kernel
theorem dX4_queuedAt_14 : decode cX4_queuedAt 14 = .ok (.ifCond .ne 31, 3) := by decide +kernel
theorem dX4_queuedAt_17 : decode cX4_queuedAt 17 = .ok (.aload_n 0, 1) := by decide +kernel
theorem dX4_queuedAt_18 : decode cX4_queuedAt 18 = .ok (.iload_n 2, 1) := by decide +kernel
theorem dX4_queuedAt_19 : decode cX4_queuedAt 19 = .ok (.iconst 0, 1) := by decide +kernel
theorem dX4_queuedAt_20 : decode cX4_queuedAt 20 = .ok (.aload_n 0, 1) := by decide +kernel
theorem dX4_queuedAt_21 : decode cX4_queuedAt 21 = .ok (.iload_n 1, 1) := by decide +kernel
theorem dX4_queuedAt_22 : decode cX4_queuedAt 22 = .ok (.invokevirtual 118, 3) := by decide +kernel
theorem dX4_queuedAt_25 : decode cX4_queuedAt 25 = .ok (.iconst 1, 1) := by decide +kernel
theorem dX4_queuedAt_26 : decode cX4_queuedAt 26 = .ok (.isub, 1) := by decide +kernel
theorem dX4_queuedAt_27 : decode cX4_queuedAt 27 = .ok (.invokestatic 70, 3) := by decide +kernel
theorem dX4_queuedAt_30 : decode cX4_queuedAt 30 = .ok (.ifCond .ne 7, 3) := by decide +kernel
theorem dX4_queuedAt_33 : decode cX4_queuedAt 33 = .ok (.iconst 1, 1) := by decide +kernel
theorem dX4_queuedAt_34 : decode cX4_queuedAt 34 = .ok (.goto 4, 3) := by decide +kernel
theorem dX4_queuedAt_37 : decode cX4_queuedAt 37 = .ok (.iconst 0, 1) := by decide +kernel
theorem dX4_queuedAt_38 : decode cX4_queuedAt 38 = .ok (.iconst 2, 1) := by decide +kernel
theorem dX4_queuedAt_39 : decode cX4_queuedAt 39 = .ok (.invokevirtual 84, 3) := by decide +kernel
theorem dX4_queuedAt_42 : decode cX4_queuedAt 42 = .ok (.ifCond .eq 7, 3) := by decide +kernel
theorem dX4_queuedAt_45 : decode cX4_queuedAt 45 = .ok (.iconst 0, 1) := by decide +kernel
theorem dX4_queuedAt_46 : decode cX4_queuedAt 46 = .ok (.goto 9, 3) := by decide +kernel
theorem dX4_queuedAt_49 : decode cX4_queuedAt 49 = .ok (.aload_n 0, 1) := by decide +kernel
theorem dX4_queuedAt_50 : decode cX4_queuedAt 50 = .ok (.iload_n 1, 1) := by decide +kernel
theorem dX4_queuedAt_51 : decode cX4_queuedAt 51 = .ok (.iload_n 2, 1) := by decide +kernel
theorem dX4_queuedAt_52 : decode cX4_queuedAt 52 = .ok (.invokevirtual 122, 3) := by decide +kernel
theorem dX4_queuedAt_55 : decode cX4_queuedAt 55 = .ok (.ireturn, 1) := by decide +kernel
theorem dX4_dueNow_0 : decode cX4_dueNow 0 = .ok (.aload_n 0, 1) := by decide +kernel
theorem dX4_dueNow_1 : decode cX4_dueNow 1 = .ok (.getfield 101, 3) := by decide +kernel
theorem dX4_dueNow_4 : decode cX4_dueNow 4 = .ok (.aload_n 0, 1) := by decide +kernel
theorem dX4_dueNow_5 : decode cX4_dueNow 5 = .ok (.getfield 42, 3) := by decide +kernel
theorem dX4_dueNow_8 : decode cX4_dueNow 8 = .ok (.iload_n 1, 1) := by decide +kernel
theorem dX4_dueNow_9 : decode cX4_dueNow 9 = .ok (.iaload, 1) := by decide +kernel
theorem dX4_dueNow_10 : decode cX4_dueNow 10 = .ok (.if_icmp .lt 20, 3) := by decide +kernel
theorem dX4_dueNow_13 : decode cX4_dueNow 13 = .ok (.aload_n 0, 1) := by decide +kernel
theorem dX4_dueNow_14 : decode cX4_dueNow 14 = .ok (.getfield 101, 3) := by decide +kernel
theorem dX4_dueNow_17 : decode cX4_dueNow 17 = .ok (.aload_n 0, 1) := by decide +kernel
theorem dX4_dueNow_18 : decode cX4_dueNow 18 = .ok (.getfield 45, 3) := by decide +kernel
theorem dX4_dueNow_21 : decode cX4_dueNow 21 = .ok (.iload_n 1, 1) := by decide +kernel
theorem dX4_dueNow_22 : decode cX4_dueNow 22 = .ok (.iaload, 1) := by decide +kernel
theorem dX4_dueNow_23 : decode cX4_dueNow 23 = .ok (.if_icmp .ge 7, 3) := by decide +kernel
theorem dX4_dueNow_26 : decode cX4_dueNow 26 = .ok (.iconst 1, 1) := by decide +kernel
theorem dX4_dueNow_27 : decode cX4_dueNow 27 = .ok (.goto 4, 3) := by decide +kernel
theorem dX4_dueNow_30 : decode cX4_dueNow 30 = .ok (.iconst 0, 1) := by decide +kernel
theorem dX4_dueNow_31 : decode cX4_dueNow 31 = .ok (.ireturn, 1) := by decide +kernel
theorem dX4_isDue_0 : decode cX4_isDue 0 = .ok (.aload_n 0, 1) := by decide +kernel
theorem dX4_isDue_1 : decode cX4_isDue 1 = .ok (.iconst 0, 1) := by decide +kernel
theorem dX4_isDue_2 : decode cX4_isDue 2 = .ok (.putfield 64, 3) := by decide +kernel
theorem dX4_isDue_5 : decode cX4_isDue 5 = .ok (.aload_n 0, 1) := by decide +kernel
theorem dX4_isDue_6 : decode cX4_isDue 6 = .ok (.aload_n 0, 1) := by decide +kernel
theorem dX4_isDue_7 : decode cX4_isDue 7 = .ok (.iload_n 1, 1) := by decide +kernel
theorem dX4_isDue_8 : decode cX4_isDue 8 = .ok (.invokevirtual 98, 3) := by decide +kernel
theorem dX4_isDue_11 : decode cX4_isDue 11 = .ok (.iconst 1, 1) := by decide +kernel
theorem dX4_isDue_12 : decode cX4_isDue 12 = .ok (.invokevirtual 84, 3) := by decide +kernel
theorem dX4_isDue_15 : decode cX4_isDue 15 = .ok (.ifCond .ne 15, 3) := by decide +kernel
theorem dX4_isDue_18 : decode cX4_isDue 18 = .ok (.aload_n 0, 1) := by decide +kernel
theorem dX4_isDue_19 : decode cX4_isDue 19 = .ok (.iload_n 1, 1) := by decide +kernel
theorem dX4_isDue_20 : decode cX4_isDue 20 = .ok (.invokevirtual 125, 3) := by decide +kernel
theorem dX4_isDue_23 : decode cX4_isDue 23 = .ok (.ifCond .eq 7, 3) := by decide +kernel
theorem dX4_isDue_26 : decode cX4_isDue 26 = .ok (.iconst 1, 1) := by decide +kernel
theorem dX4_isDue_27 : decode cX4_isDue 27 = .ok (.goto 4, 3) := by decide +kernel
theorem dX4_isDue_30 : decode cX4_isDue 30 = .ok (.iconst 0, 1) := by decide +kernel
theorem dX4_isDue_31 : decode cX4_isDue 31 = .ok (.ireturn, 1) := by decide +kernel
theorem dX4_pass_0 : decode cX4_pass 0 = .ok (.aload_n 0, 1) := by decide +kernel
theorem dX4_pass_1 : decode cX4_pass 1 = .ok (.iconst 0, 1) := by decide +kernel
theorem dX4_pass_2 : decode cX4_pass 2 = .ok (.putfield 64, 3) := by decide +kernel
theorem dX4_pass_5 : decode cX4_pass 5 = .ok (.aload_n 0, 1) := by decide +kernel
theorem dX4_pass_6 : decode cX4_pass 6 = .ok (.aload_n 0, 1) := by decide +kernel
theorem dX4_pass_7 : decode cX4_pass 7 = .ok (.iload_n 1, 1) := by decide +kernel
theorem dX4_pass_8 : decode cX4_pass 8 = .ok (.invokevirtual 88, 3) := by decide +kernel
theorem dX4_pass_11 : decode cX4_pass 11 = .ok (.iconst 1, 1) := by decide +kernel
theorem dX4_pass_12 : decode cX4_pass 12 = .ok (.invokevirtual 84, 3) := by decide +kernel
theorem dX4_pass_15 : decode cX4_pass 15 = .ok (.ifCond .ne 37, 3) := by decide +kernel
theorem dX4_pass_18 : decode cX4_pass 18 = .ok (.aload_n 0, 1) := by decide +kernel
theorem dX4_pass_19 : decode cX4_pass 19 = .ok (.iload_n 2, 1) := by decide +kernel
theorem dX4_pass_20 : decode cX4_pass 20 = .ok (.iconst 1, 1) := by decide +kernel
theorem dX4_pass_21 : decode cX4_pass 21 = .ok (.sipush 999, 3) := by decide +kernel
theorem dX4_pass_24 : decode cX4_pass 24 = .ok (.invokestatic 70, 3) := by decide +kernel
theorem dX4_pass_27 : decode cX4_pass 27 = .ok (.ifCond .ne 7, 3) := by decide +kernel
theorem dX4_pass_30 : decode cX4_pass 30 = .ok (.iconst 1, 1) := by decide +kernel
theorem dX4_pass_31 : decode cX4_pass 31 = .ok (.goto 4, 3) := by decide +kernel
theorem dX4_pass_34 : decode cX4_pass 34 = .ok (.iconst 0, 1) := by decide +kernel
theorem dX4_pass_35 : decode cX4_pass 35 = .ok (.iconst 2, 1) := by decide +kernel
theorem dX4_pass_36 : decode cX4_pass 36 = .ok (.invokevirtual 84, 3) := by decide +kernel
theorem dX4_pass_39 : decode cX4_pass 39 = .ok (.ifCond .ne 13, 3) := by decide +kernel
theorem dX4_pass_42 : decode cX4_pass 42 = .ok (.aload_n 0, 1) := by decide +kernel
theorem dX4_pass_43 : decode cX4_pass 43 = .ok (.getfield 20, 3) := by decide +kernel
theorem dX4_pass_46 : decode cX4_pass 46 = .ok (.iload_n 1, 1) := by decide +kernel
theorem dX4_pass_47 : decode cX4_pass 47 = .ok (.iaload, 1) := by decide +kernel
theorem dX4_pass_48 : decode cX4_pass 48 = .ok (.iconst (-1), 1) := by decide +kernel
theorem dX4_pass_49 : decode cX4_pass 49 = .ok (.if_icmp .ne 5, 3) := by decide +kernel
theorem dX4_pass_52 : decode cX4_pass 52 = .ok (.iconst 0, 1) := by decide +kernel
theorem dX4_pass_53 : decode cX4_pass 53 = .ok (.ireturn, 1) := by decide +kernel
theorem dX4_pass_54 : decode cX4_pass 54 = .ok (.aload_n 0, 1) := by decide +kernel
theorem dX4_pass_55 : decode cX4_pass 55 = .ok (.getfield 20, 3) := by decide +kernel
theorem dX4_pass_58 : decode cX4_pass 58 = .ok (.iload_n 1, 1) := by decide +kernel
theorem dX4_pass_59 : decode cX4_pass 59 = .ok (.iaload, 1) := by decide +kernel
theorem dX4_pass_60 : decode cX4_pass 60 = .ok (.istore_n 3, 1) := by decide +kernel
theorem dX4_pass_61 : decode cX4_pass 61 = .ok (.aload_n 0, 1) := by decide +kernel
theorem dX4_pass_62 : decode cX4_pass 62 = .ok (.getfield 57, 3) := by decide +kernel
theorem dX4_pass_65 : decode cX4_pass 65 = .ok (.bipush 6, 2) := by decide +kernel
theorem dX4_pass_67 : decode cX4_pass 67 = .ok (.iload_n 3, 1) := by decide +kernel
theorem dX4_pass_68 : decode cX4_pass 68 = .ok (.imul, 1) := by decide +kernel
theorem dX4_pass_69 : decode cX4_pass 69 = .ok (.iload_n 1, 1) := by decide +kernel
theorem dX4_pass_70 : decode cX4_pass 70 = .ok (.iadd, 1) := by decide +kernel
theorem dX4_pass_71 : decode cX4_pass 71 = .ok (.dup2, 1) := by decide +kernel
theorem dX4_pass_72 : decode cX4_pass 72 = .ok (.iaload, 1) := by decide +kernel
theorem dX4_pass_73 : decode cX4_pass 73 = .ok (.iload_n 2, 1) := by decide +kernel
theorem dX4_pass_74 : decode cX4_pass 74 = .ok (.iadd, 1) := by decide +kernel
theorem dX4_pass_75 : decode cX4_pass 75 = .ok (.iastore, 1) := by decide +kernel
theorem dX4_pass_76 : decode cX4_pass 76 = .ok (.aload_n 0, 1) := by decide +kernel
theorem dX4_pass_77 : decode cX4_pass 77 = .ok (.getfield 61, 3) := by decide +kernel
theorem dX4_pass_80 : decode cX4_pass 80 = .ok (.sipush 2001, 3) := by decide +kernel
theorem dX4_pass_83 : decode cX4_pass 83 = .ok (.iload_n 3, 1) := by decide +kernel
theorem dX4_pass_84 : decode cX4_pass 84 = .ok (.imul, 1) := by decide +kernel
theorem dX4_pass_85 : decode cX4_pass 85 = .ok (.aload_n 0, 1) := by decide +kernel
theorem dX4_pass_86 : decode cX4_pass 86 = .ok (.getfield 101, 3) := by decide +kernel
theorem dX4_pass_89 : decode cX4_pass 89 = .ok (.iadd, 1) := by decide +kernel
theorem dX4_pass_90 : decode cX4_pass 90 = .ok (.dup2, 1) := by decide +kernel
theorem dX4_pass_91 : decode cX4_pass 91 = .ok (.iaload, 1) := by decide +kernel
theorem dX4_pass_92 : decode cX4_pass 92 = .ok (.iload_n 2, 1) := by decide +kernel
theorem dX4_pass_93 : decode cX4_pass 93 = .ok (.iadd, 1) := by decide +kernel
theorem dX4_pass_94 : decode cX4_pass 94 = .ok (.iastore, 1) := by decide +kernel
theorem dX4_pass_95 : decode cX4_pass 95 = .ok (.aload_n 0, 1) := by decide +kernel
theorem dX4_pass_96 : decode cX4_pass 96 = .ok (.getfield 57, 3) := by decide +kernel
theorem dX4_pass_99 : decode cX4_pass 99 = .ok (.bipush 6, 2) := by decide +kernel
theorem dX4_pass_101 : decode cX4_pass 101 = .ok (.iload_n 3, 1) := by decide +kernel
theorem dX4_pass_102 : decode cX4_pass 102 = .ok (.imul, 1) := by decide +kernel
theorem dX4_pass_103 : decode cX4_pass 103 = .ok (.iload_n 1, 1) := by decide +kernel
theorem dX4_pass_104 : decode cX4_pass 104 = .ok (.iadd, 1) := by decide +kernel
theorem dX4_pass_105 : decode cX4_pass 105 = .ok (.iaload, 1) := by decide +kernel
theorem dX4_pass_106 : decode cX4_pass 106 = .ok (.ireturn, 1) := by decide +kernel
theorem dX4_readers_0 : decode cX4_readers 0 = .ok (.aload_n 0, 1) := by decide +kernel
theorem dX4_readers_1 : decode cX4_readers 1 = .ok (.iconst 0, 1) := by decide +kernel
theorem dX4_readers_2 : decode cX4_readers 2 = .ok (.putfield 64, 3) := by decide +kernel
theorem dX4_readers_5 : decode cX4_readers 5 = .ok (.aload_n 0, 1) := by decide +kernel
theorem dX4_readers_6 : decode cX4_readers 6 = .ok (.aload_n 0, 1) := by decide +kernel
theorem dX4_readers_7 : decode cX4_readers 7 = .ok (.iload_n 1, 1) := by decide +kernel
theorem dX4_readers_8 : decode cX4_readers 8 = .ok (.invokevirtual 98, 3) := by decide +kernel
theorem dX4_readers_11 : decode cX4_readers 11 = .ok (.iconst 1, 1) := by decide +kernel
theorem dX4_readers_12 : decode cX4_readers 12 = .ok (.invokevirtual 84, 3) := by decide +kernel
theorem dX4_readers_15 : decode cX4_readers 15 = .ok (.ifCond .ne 15, 3) := by decide +kernel
theorem dX4_readers_18 : decode cX4_readers 18 = .ok (.aload_n 0, 1) := by decide +kernel
theorem dX4_readers_19 : decode cX4_readers 19 = .ok (.iload_n 2, 1) := by decide +kernel
theorem dX4_readers_20 : decode cX4_readers 20 = .ok (.invokestatic 80, 3) := by decide +kernel
theorem dX4_readers_23 : decode cX4_readers 23 = .ok (.iconst 2, 1) := by decide +kernel
theorem dX4_readers_24 : decode cX4_readers 24 = .ok (.invokevirtual 84, 3) := by decide +kernel
theorem dX4_readers_27 : decode cX4_readers 27 = .ok (.ifCond .eq 7, 3) := by decide +kernel
theorem dX4_readers_30 : decode cX4_readers 30 = .ok (.iconst 0, 1) := by decide +kernel
theorem dX4_readers_31 : decode cX4_readers 31 = .ok (.goto 9, 3) := by decide +kernel
theorem dX4_readers_34 : decode cX4_readers 34 = .ok (.aload_n 0, 1) := by decide +kernel
theorem dX4_readers_35 : decode cX4_readers 35 = .ok (.iload_n 1, 1) := by decide +kernel
theorem dX4_readers_36 : decode cX4_readers 36 = .ok (.iload_n 2, 1) := by decide +kernel
theorem dX4_readers_37 : decode cX4_readers 37 = .ok (.invokevirtual 111, 3) := by decide +kernel
theorem dX4_readers_40 : decode cX4_readers 40 = .ok (.ireturn, 1) := by decide +kernel
theorem dX4_readIn_0 : decode cX4_readIn 0 = .ok (.aload_n 0, 1) := by decide +kernel
theorem dX4_readIn_1 : decode cX4_readIn 1 = .ok (.iconst 0, 1) := by decide +kernel
theorem dX4_readIn_2 : decode cX4_readIn 2 = .ok (.putfield 64, 3) := by decide +kernel
theorem dX4_readIn_5 : decode cX4_readIn 5 = .ok (.aload_n 0, 1) := by decide +kernel
theorem dX4_readIn_6 : decode cX4_readIn 6 = .ok (.aload_n 0, 1) := by decide +kernel
theorem dX4_readIn_7 : decode cX4_readIn 7 = .ok (.iload_n 1, 1) := by decide +kernel
theorem dX4_readIn_8 : decode cX4_readIn 8 = .ok (.invokevirtual 98, 3) := by decide +kernel
theorem dX4_readIn_11 : decode cX4_readIn 11 = .ok (.iconst 1, 1) := by decide +kernel
theorem dX4_readIn_12 : decode cX4_readIn 12 = .ok (.invokevirtual 84, 3) := by decide +kernel
theorem dX4_readIn_15 : decode cX4_readIn 15 = .ok (.ifCond .ne 14, 3) := by decide +kernel
theorem dX4_readIn_18 : decode cX4_readIn 18 = .ok (.iload_n 2, 1) := by decide +kernel
theorem dX4_readIn_19 : decode cX4_readIn 19 = .ok (.iconst 0, 1) := by decide +kernel
theorem dX4_readIn_20 : decode cX4_readIn 20 = .ok (.sipush 2000, 3) := by decide +kernel
theorem dX4_readIn_23 : decode cX4_readIn 23 = .ok (.invokestatic 70, 3) := by decide +kernel
theorem dX4_readIn_26 : decode cX4_readIn 26 = .ok (.ifCond .ne 7, 3) := by decide +kernel
theorem dX4_readIn_29 : decode cX4_readIn 29 = .ok (.iconst 0, 1) := by decide +kernel
theorem dX4_readIn_30 : decode cX4_readIn 30 = .ok (.goto 15, 3) := by decide +kernel
theorem dX4_readIn_33 : decode cX4_readIn 33 = .ok (.aload_n 0, 1) := by decide +kernel
theorem dX4_readIn_34 : decode cX4_readIn 34 = .ok (.getfield 61, 3) := by decide +kernel
theorem dX4_readIn_37 : decode cX4_readIn 37 = .ok (.sipush 2001, 3) := by decide +kernel
theorem dX4_readIn_40 : decode cX4_readIn 40 = .ok (.iload_n 1, 1) := by decide +kernel
theorem dX4_readIn_41 : decode cX4_readIn 41 = .ok (.imul, 1) := by decide +kernel
theorem dX4_readIn_42 : decode cX4_readIn 42 = .ok (.iload_n 2, 1) := by decide +kernel
theorem dX4_readIn_43 : decode cX4_readIn 43 = .ok (.iadd, 1) := by decide +kernel
theorem dX4_readIn_44 : decode cX4_readIn 44 = .ok (.iaload, 1) := by decide +kernel
theorem dX4_readIn_45 : decode cX4_readIn 45 = .ok (.ireturn, 1) := by decide +kernel
theorem dX4_canHaveMade_0 : decode cX4_canHaveMade 0 = .ok (.iconst 0, 1) := by decide +kernel
theorem dX4_canHaveMade_1 : decode cX4_canHaveMade 1 = .ok (.istore 4, 2) := by decide +kernel
theorem dX4_canHaveMade_3 : decode cX4_canHaveMade 3 = .ok (.iconst 0, 1) := by decide +kernel
theorem dX4_canHaveMade_4 : decode cX4_canHaveMade 4 = .ok (.istore 5, 2) := by decide +kernel
theorem dX4_canHaveMade_6 : decode cX4_canHaveMade 6 = .ok (.iload 5, 2) := by decide +kernel
theorem dX4_canHaveMade_8 : decode cX4_canHaveMade 8 = .ok (.bipush 8, 2) := by decide +kernel
theorem dX4_canHaveMade_10 : decode cX4_canHaveMade 10 = .ok (.if_icmp .ge 83, 3) := by decide +kernel
theorem dX4_canHaveMade_13 : decode cX4_canHaveMade 13 = .ok (.iconst 1, 1) := by decide +kernel
theorem dX4_canHaveMade_14 : decode cX4_canHaveMade 14 = .ok (.istore 6, 2) := by decide +kernel
theorem dX4_canHaveMade_16 : decode cX4_canHaveMade 16 = .ok (.iconst 0, 1) := by decide +kernel
theorem dX4_canHaveMade_17 : decode cX4_canHaveMade 17 = .ok (.istore 7, 2) := by decide +kernel
theorem dX4_canHaveMade_19 : decode cX4_canHaveMade 19 = .ok (.iload 7, 2) := by decide +kernel
theorem dX4_canHaveMade_21 : decode cX4_canHaveMade 21 = .ok (.bipush 32, 2) := by decide +kernel
theorem dX4_canHaveMade_23 : decode cX4_canHaveMade 23 = .ok (.if_icmp .ge 47, 3) := by decide +kernel
theorem dX4_canHaveMade_26 : decode cX4_canHaveMade 26 = .ok (.iload 6, 2) := by decide +kernel
theorem dX4_canHaveMade_28 : decode cX4_canHaveMade 28 = .ok (.ifCond .eq 33, 3) := by decide +kernel
theorem dX4_canHaveMade_31 : decode cX4_canHaveMade 31 = .ok (.iload_n 2, 1) := by decide +kernel
theorem dX4_canHaveMade_32 : decode cX4_canHaveMade 32 = .ok (.iconst 0, 1) := by decide +kernel
theorem dX4_canHaveMade_33 : decode cX4_canHaveMade 33 = .ok (.iload 7, 2) := by decide +kernel
theorem dX4_canHaveMade_35 : decode cX4_canHaveMade 35 = .ok (.invokestatic 77, 3) := by decide +kernel
theorem dX4_canHaveMade_38 : decode cX4_canHaveMade 38 = .ok (.ifCond .eq 19, 3) := by decide +kernel
theorem dX4_canHaveMade_41 : decode cX4_canHaveMade 41 = .ok (.aload_n 0, 1) := by decide +kernel
theorem dX4_canHaveMade_42 : decode cX4_canHaveMade 42 = .ok (.getfield 39, 3) := by decide +kernel
theorem dX4_canHaveMade_45 : decode cX4_canHaveMade 45 = .ok (.iload_n 1, 1) := by decide +kernel
theorem dX4_canHaveMade_46 : decode cX4_canHaveMade 46 = .ok (.iaload, 1) := by decide +kernel
theorem dX4_canHaveMade_47 : decode cX4_canHaveMade 47 = .ok (.iload 5, 2) := by decide +kernel
theorem dX4_canHaveMade_49 : decode cX4_canHaveMade 49 = .ok (.iload 7, 2) := by decide +kernel
theorem dX4_canHaveMade_51 : decode cX4_canHaveMade 51 = .ok (.invokestatic 77, 3) := by decide +kernel
theorem dX4_canHaveMade_54 : decode cX4_canHaveMade 54 = .ok (.ifCond .eq 7, 3) := by decide +kernel
theorem dX4_canHaveMade_57 : decode cX4_canHaveMade 57 = .ok (.iconst 1, 1) := by decide +kernel
theorem dX4_canHaveMade_58 : decode cX4_canHaveMade 58 = .ok (.goto 4, 3) := by decide +kernel
theorem dX4_canHaveMade_61 : decode cX4_canHaveMade 61 = .ok (.iconst 0, 1) := by decide +kernel
theorem dX4_canHaveMade_62 : decode cX4_canHaveMade 62 = .ok (.istore 6, 2) := by decide +kernel
theorem dX4_canHaveMade_64 : decode cX4_canHaveMade 64 = .ok (.iinc 7 1, 3) := by decide +kernel
theorem dX4_canHaveMade_67 : decode cX4_canHaveMade 67 = .ok (.goto (-48), 3) := by decide +kernel
theorem dX4_canHaveMade_70 : decode cX4_canHaveMade 70 = .ok (.iload 4, 2) := by decide +kernel
theorem dX4_canHaveMade_72 : decode cX4_canHaveMade 72 = .ok (.ifCond .ne 8, 3) := by decide +kernel
theorem dX4_canHaveMade_75 : decode cX4_canHaveMade 75 = .ok (.iload 6, 2) := by decide +kernel
theorem dX4_canHaveMade_77 : decode cX4_canHaveMade 77 = .ok (.ifCond .eq 7, 3) := by decide +kernel
theorem dX4_canHaveMade_80 : decode cX4_canHaveMade 80 = .ok (.iconst 1, 1) := by decide +kernel
theorem dX4_canHaveMade_81 : decode cX4_canHaveMade 81 = .ok (.goto 4, 3) := by decide +kernel
theorem dX4_canHaveMade_84 : decode cX4_canHaveMade 84 = .ok (.iconst 0, 1) := by decide +kernel
theorem dX4_canHaveMade_85 : decode cX4_canHaveMade 85 = .ok (.istore 4, 2) := by decide +kernel
theorem dX4_canHaveMade_87 : decode cX4_canHaveMade 87 = .ok (.iinc 5 1, 3) := by decide +kernel
theorem dX4_canHaveMade_90 : decode cX4_canHaveMade 90 = .ok (.goto (-84), 3) := by decide +kernel
theorem dX4_canHaveMade_93 : decode cX4_canHaveMade 93 = .ok (.iload 4, 2) := by decide +kernel
theorem dX4_canHaveMade_95 : decode cX4_canHaveMade 95 = .ok (.ifCond .eq 16, 3) := by decide +kernel
theorem dX4_canHaveMade_98 : decode cX4_canHaveMade 98 = .ok (.aload_n 0, 1) := by decide +kernel
theorem dX4_canHaveMade_99 : decode cX4_canHaveMade 99 = .ok (.iload_n 1, 1) := by decide +kernel
theorem dX4_canHaveMade_100 : decode cX4_canHaveMade 100 = .ok (.iload_n 3, 1) := by decide +kernel
theorem dX4_canHaveMade_101 : decode cX4_canHaveMade 101 = .ok (.invokevirtual 111, 3) := by decide +kernel
theorem dX4_canHaveMade_104 : decode cX4_canHaveMade 104 = .ok (.ifCond .le 7, 3) := by decide +kernel
theorem dX4_canHaveMade_107 : decode cX4_canHaveMade 107 = .ok (.iconst 1, 1) := by decide +kernel
theorem dX4_canHaveMade_108 : decode cX4_canHaveMade 108 = .ok (.goto 4, 3) := by decide +kernel
theorem dX4_canHaveMade_111 : decode cX4_canHaveMade 111 = .ok (.iconst 0, 1) := by decide +kernel
theorem dX4_canHaveMade_112 : decode cX4_canHaveMade 112 = .ok (.ireturn, 1) := by decide +kernel
theorem dX4_manySuspects_0 : decode cX4_manySuspects 0 = .ok (.iconst 0, 1) := by decide +kernel
theorem dX4_manySuspects_1 : decode cX4_manySuspects 1 = .ok (.istore_n 3, 1) := by decide +kernel
theorem dX4_manySuspects_2 : decode cX4_manySuspects 2 = .ok (.iconst 0, 1) := by decide +kernel
theorem dX4_manySuspects_3 : decode cX4_manySuspects 3 = .ok (.istore 4, 2) := by decide +kernel
theorem dX4_manySuspects_5 : decode cX4_manySuspects 5 = .ok (.iload 4, 2) := by decide +kernel
theorem dX4_manySuspects_7 : decode cX4_manySuspects 7 = .ok (.aload_n 0, 1) := by decide +kernel
theorem dX4_manySuspects_8 : decode cX4_manySuspects 8 = .ok (.getfield 74, 3) := by decide +kernel
theorem dX4_manySuspects_11 : decode cX4_manySuspects 11 = .ok (.if_icmp .ge 28, 3) := by decide +kernel
theorem dX4_manySuspects_14 : decode cX4_manySuspects 14 = .ok (.iload_n 3, 1) := by decide +kernel
theorem dX4_manySuspects_15 : decode cX4_manySuspects 15 = .ok (.aload_n 0, 1) := by decide +kernel
theorem dX4_manySuspects_16 : decode cX4_manySuspects 16 = .ok (.iload 4, 2) := by decide +kernel
theorem dX4_manySuspects_18 : decode cX4_manySuspects 18 = .ok (.iload_n 1, 1) := by decide +kernel
theorem dX4_manySuspects_19 : decode cX4_manySuspects 19 = .ok (.iload_n 2, 1) := by decide +kernel
theorem dX4_manySuspects_20 : decode cX4_manySuspects 20 = .ok (.invokevirtual 128, 3) := by decide +kernel
theorem dX4_manySuspects_23 : decode cX4_manySuspects 23 = .ok (.ifCond .eq 7, 3) := by decide +kernel
theorem dX4_manySuspects_26 : decode cX4_manySuspects 26 = .ok (.iconst 1, 1) := by decide +kernel
theorem dX4_manySuspects_27 : decode cX4_manySuspects 27 = .ok (.goto 4, 3) := by decide +kernel
theorem dX4_manySuspects_30 : decode cX4_manySuspects 30 = .ok (.iconst 0, 1) := by decide +kernel
theorem dX4_manySuspects_31 : decode cX4_manySuspects 31 = .ok (.iadd, 1) := by decide +kernel
theorem dX4_manySuspects_32 : decode cX4_manySuspects 32 = .ok (.istore_n 3, 1) := by decide +kernel
theorem dX4_manySuspects_33 : decode cX4_manySuspects 33 = .ok (.iinc 4 1, 3) := by decide +kernel
theorem dX4_manySuspects_36 : decode cX4_manySuspects 36 = .ok (.goto (-31), 3) := by decide +kernel
theorem dX4_manySuspects_39 : decode cX4_manySuspects 39 = .ok (.iload_n 3, 1) := by decide +kernel
theorem dX4_manySuspects_40 : decode cX4_manySuspects 40 = .ok (.ireturn, 1) := by decide +kernel
theorem dX4_suspects_0 : decode cX4_suspects 0 = .ok (.aload_n 0, 1) := by decide +kernel
theorem dX4_suspects_1 : decode cX4_suspects 1 = .ok (.iconst 0, 1) := by decide +kernel
theorem dX4_suspects_2 : decode cX4_suspects 2 = .ok (.putfield 64, 3) := by decide +kernel
theorem dX4_suspects_5 : decode cX4_suspects 5 = .ok (.aload_n 0, 1) := by decide +kernel
theorem dX4_suspects_6 : decode cX4_suspects 6 = .ok (.iload_n 2, 1) := by decide +kernel
theorem dX4_suspects_7 : decode cX4_suspects 7 = .ok (.invokestatic 80, 3) := by decide +kernel
theorem dX4_suspects_10 : decode cX4_suspects 10 = .ok (.ifCond .ne 7, 3) := by decide +kernel
theorem dX4_suspects_13 : decode cX4_suspects 13 = .ok (.iload_n 1, 1) := by decide +kernel
theorem dX4_suspects_14 : decode cX4_suspects 14 = .ok (.ifCond .ne 7, 3) := by decide +kernel
theorem dX4_suspects_17 : decode cX4_suspects 17 = .ok (.iconst 1, 1) := by decide +kernel
theorem dX4_suspects_18 : decode cX4_suspects 18 = .ok (.goto 4, 3) := by decide +kernel
theorem dX4_suspects_21 : decode cX4_suspects 21 = .ok (.iconst 0, 1) := by decide +kernel
theorem dX4_suspects_22 : decode cX4_suspects 22 = .ok (.iconst 1, 1) := by decide +kernel
theorem dX4_suspects_23 : decode cX4_suspects 23 = .ok (.invokevirtual 84, 3) := by decide +kernel
theorem dX4_suspects_26 : decode cX4_suspects 26 = .ok (.ifCond .eq 7, 3) := by decide +kernel
theorem dX4_suspects_29 : decode cX4_suspects 29 = .ok (.iconst 0, 1) := by decide +kernel
theorem dX4_suspects_30 : decode cX4_suspects 30 = .ok (.goto 9, 3) := by decide +kernel
theorem dX4_suspects_33 : decode cX4_suspects 33 = .ok (.aload_n 0, 1) := by decide +kernel
theorem dX4_suspects_34 : decode cX4_suspects 34 = .ok (.iload_n 1, 1) := by decide +kernel
theorem dX4_suspects_35 : decode cX4_suspects 35 = .ok (.iload_n 2, 1) := by decide +kernel
theorem dX4_suspects_36 : decode cX4_suspects 36 = .ok (.invokevirtual 131, 3) := by decide +kernel
theorem dX4_suspects_39 : decode cX4_suspects 39 = .ok (.ireturn, 1) := by decide +kernel
theorem dX4_suspectAt_0 : decode cX4_suspectAt 0 = .ok (.aload_n 0, 1) := by decide +kernel
theorem dX4_suspectAt_1 : decode cX4_suspectAt 1 = .ok (.iconst 0, 1) := by decide +kernel
theorem dX4_suspectAt_2 : decode cX4_suspectAt 2 = .ok (.putfield 64, 3) := by decide +kernel
theorem dX4_suspectAt_5 : decode cX4_suspectAt 5 = .ok (.aload_n 0, 1) := by decide +kernel
theorem dX4_suspectAt_6 : decode cX4_suspectAt 6 = .ok (.iload_n 2, 1) := by decide +kernel
theorem dX4_suspectAt_7 : decode cX4_suspectAt 7 = .ok (.invokestatic 80, 3) := by decide +kernel
theorem dX4_suspectAt_10 : decode cX4_suspectAt 10 = .ok (.ifCond .ne 7, 3) := by decide +kernel
theorem dX4_suspectAt_13 : decode cX4_suspectAt 13 = .ok (.iload_n 1, 1) := by decide +kernel
theorem dX4_suspectAt_14 : decode cX4_suspectAt 14 = .ok (.ifCond .ne 7, 3) := by decide +kernel
theorem dX4_suspectAt_17 : decode cX4_suspectAt 17 = .ok (.iconst 1, 1) := by decide +kernel
theorem dX4_suspectAt_18 : decode cX4_suspectAt 18 = .ok (.goto 4, 3) := by decide +kernel
theorem dX4_suspectAt_21 : decode cX4_suspectAt 21 = .ok (.iconst 0, 1) := by decide +kernel
theorem dX4_suspectAt_22 : decode cX4_suspectAt 22 = .ok (.iconst 1, 1) := by decide +kernel
theorem dX4_suspectAt_23 : decode cX4_suspectAt 23 = .ok (.invokevirtual 84, 3) := by decide +kernel
theorem dX4_suspectAt_26 : decode cX4_suspectAt 26 = .ok (.ifCond .ne 32, 3) := by decide +kernel
theorem dX4_suspectAt_29 : decode cX4_suspectAt 29 = .ok (.aload_n 0, 1) := by decide +kernel
theorem dX4_suspectAt_30 : decode cX4_suspectAt 30 = .ok (.iload_n 3, 1) := by decide +kernel
theorem dX4_suspectAt_31 : decode cX4_suspectAt 31 = .ok (.iconst 0, 1) := by decide +kernel
theorem dX4_suspectAt_32 : decode cX4_suspectAt 32 = .ok (.aload_n 0, 1) := by decide +kernel
theorem dX4_suspectAt_33 : decode cX4_suspectAt 33 = .ok (.iload_n 1, 1) := by decide +kernel
theorem dX4_suspectAt_34 : decode cX4_suspectAt 34 = .ok (.iload_n 2, 1) := by decide +kernel
theorem dX4_suspectAt_35 : decode cX4_suspectAt 35 = .ok (.invokevirtual 131, 3) := by decide +kernel
theorem dX4_suspectAt_38 : decode cX4_suspectAt 38 = .ok (.iconst 1, 1) := by decide +kernel
theorem dX4_suspectAt_39 : decode cX4_suspectAt 39 = .ok (.isub, 1) := by decide +kernel
theorem dX4_suspectAt_40 : decode cX4_suspectAt 40 = .ok (.invokestatic 70, 3) := by decide +kernel
theorem dX4_suspectAt_43 : decode cX4_suspectAt 43 = .ok (.ifCond .ne 7, 3) := by decide +kernel
theorem dX4_suspectAt_46 : decode cX4_suspectAt 46 = .ok (.iconst 1, 1) := by decide +kernel
theorem dX4_suspectAt_47 : decode cX4_suspectAt 47 = .ok (.goto 4, 3) := by decide +kernel
theorem dX4_suspectAt_50 : decode cX4_suspectAt 50 = .ok (.iconst 0, 1) := by decide +kernel
theorem dX4_suspectAt_51 : decode cX4_suspectAt 51 = .ok (.iconst 2, 1) := by decide +kernel
theorem dX4_suspectAt_52 : decode cX4_suspectAt 52 = .ok (.invokevirtual 84, 3) := by decide +kernel
theorem dX4_suspectAt_55 : decode cX4_suspectAt 55 = .ok (.ifCond .eq 5, 3) := by decide +kernel
theorem dX4_suspectAt_58 : decode cX4_suspectAt 58 = .ok (.iconst 0, 1) := by decide +kernel
theorem dX4_suspectAt_59 : decode cX4_suspectAt 59 = .ok (.ireturn, 1) := by decide +kernel
theorem dX4_suspectAt_60 : decode cX4_suspectAt 60 = .ok (.iconst (-1), 1) := by decide +kernel
theorem dX4_suspectAt_61 : decode cX4_suspectAt 61 = .ok (.istore 4, 2) := by decide +kernel
theorem dX4_suspectAt_63 : decode cX4_suspectAt 63 = .ok (.iconst 0, 1) := by decide +kernel
theorem dX4_suspectAt_64 : decode cX4_suspectAt 64 = .ok (.istore 5, 2) := by decide +kernel
theorem dX4_suspectAt_66 : decode cX4_suspectAt 66 = .ok (.iload 5, 2) := by decide +kernel
theorem dX4_suspectAt_68 : decode cX4_suspectAt 68 = .ok (.aload_n 0, 1) := by decide +kernel
theorem dX4_suspectAt_69 : decode cX4_suspectAt 69 = .ok (.getfield 74, 3) := by decide +kernel
theorem dX4_suspectAt_72 : decode cX4_suspectAt 72 = .ok (.if_icmp .ge 111, 3) := by decide +kernel
theorem dX4_suspectAt_75 : decode cX4_suspectAt 75 = .ok (.iconst 0, 1) := by decide +kernel
theorem dX4_suspectAt_76 : decode cX4_suspectAt 76 = .ok (.istore 6, 2) := by decide +kernel
theorem dX4_suspectAt_78 : decode cX4_suspectAt 78 = .ok (.iconst 0, 1) := by decide +kernel
theorem dX4_suspectAt_79 : decode cX4_suspectAt 79 = .ok (.istore 7, 2) := by decide +kernel
theorem dX4_suspectAt_81 : decode cX4_suspectAt 81 = .ok (.iload 7, 2) := by decide +kernel
theorem dX4_suspectAt_83 : decode cX4_suspectAt 83 = .ok (.aload_n 0, 1) := by decide +kernel
theorem dX4_suspectAt_84 : decode cX4_suspectAt 84 = .ok (.getfield 74, 3) := by decide +kernel
theorem dX4_suspectAt_87 : decode cX4_suspectAt 87 = .ok (.if_icmp .ge 64, 3) := by decide +kernel
theorem dX4_suspectAt_90 : decode cX4_suspectAt 90 = .ok (.aload_n 0, 1) := by decide +kernel
theorem dX4_suspectAt_91 : decode cX4_suspectAt 91 = .ok (.iload 7, 2) := by decide +kernel
theorem dX4_suspectAt_93 : decode cX4_suspectAt 93 = .ok (.iload_n 2, 1) := by decide +kernel
theorem dX4_suspectAt_94 : decode cX4_suspectAt 94 = .ok (.invokevirtual 111, 3) := by decide +kernel
theorem dX4_suspectAt_97 : decode cX4_suspectAt 97 = .ok (.aload_n 0, 1) := by decide +kernel
theorem dX4_suspectAt_98 : decode cX4_suspectAt 98 = .ok (.iload 5, 2) := by decide +kernel
theorem dX4_suspectAt_100 : decode cX4_suspectAt 100 = .ok (.iload_n 2, 1) := by decide +kernel
theorem dX4_suspectAt_101 : decode cX4_suspectAt 101 = .ok (.invokevirtual 111, 3) := by decide +kernel
theorem dX4_suspectAt_104 : decode cX4_suspectAt 104 = .ok (.isub, 1) := by decide +kernel
theorem dX4_suspectAt_105 : decode cX4_suspectAt 105 = .ok (.istore 8, 2) := by decide +kernel
theorem dX4_suspectAt_107 : decode cX4_suspectAt 107 = .ok (.iload 6, 2) := by decide +kernel
theorem dX4_suspectAt_109 : decode cX4_suspectAt 109 = .ok (.aload_n 0, 1) := by decide +kernel
theorem dX4_suspectAt_110 : decode cX4_suspectAt 110 = .ok (.iload 7, 2) := by decide +kernel
theorem dX4_suspectAt_112 : decode cX4_suspectAt 112 = .ok (.iload_n 1, 1) := by decide +kernel
theorem dX4_suspectAt_113 : decode cX4_suspectAt 113 = .ok (.iload_n 2, 1) := by decide +kernel
theorem dX4_suspectAt_114 : decode cX4_suspectAt 114 = .ok (.invokevirtual 128, 3) := by decide +kernel
theorem dX4_suspectAt_117 : decode cX4_suspectAt 117 = .ok (.ifCond .eq 24, 3) := by decide +kernel
theorem dX4_suspectAt_120 : decode cX4_suspectAt 120 = .ok (.iload 8, 2) := by decide +kernel
theorem dX4_suspectAt_122 : decode cX4_suspectAt 122 = .ok (.ifCond .gt 15, 3) := by decide +kernel
theorem dX4_suspectAt_125 : decode cX4_suspectAt 125 = .ok (.iload 8, 2) := by decide +kernel
theorem dX4_suspectAt_127 : decode cX4_suspectAt 127 = .ok (.ifCond .ne 14, 3) := by decide +kernel
theorem dX4_suspectAt_130 : decode cX4_suspectAt 130 = .ok (.iload 7, 2) := by decide +kernel
theorem dX4_suspectAt_132 : decode cX4_suspectAt 132 = .ok (.iload 5, 2) := by decide +kernel
theorem dX4_suspectAt_134 : decode cX4_suspectAt 134 = .ok (.if_icmp .ge 7, 3) := by decide +kernel
theorem dX4_suspectAt_137 : decode cX4_suspectAt 137 = .ok (.iconst 1, 1) := by decide +kernel
theorem dX4_suspectAt_138 : decode cX4_suspectAt 138 = .ok (.goto 4, 3) := by decide +kernel
theorem dX4_suspectAt_141 : decode cX4_suspectAt 141 = .ok (.iconst 0, 1) := by decide +kernel
theorem dX4_suspectAt_142 : decode cX4_suspectAt 142 = .ok (.iadd, 1) := by decide +kernel
theorem dX4_suspectAt_143 : decode cX4_suspectAt 143 = .ok (.istore 6, 2) := by decide +kernel
theorem dX4_suspectAt_145 : decode cX4_suspectAt 145 = .ok (.iinc 7 1, 3) := by decide +kernel
theorem dX4_suspectAt_148 : decode cX4_suspectAt 148 = .ok (.goto (-67), 3) := by decide +kernel
theorem dX4_suspectAt_151 : decode cX4_suspectAt 151 = .ok (.aload_n 0, 1) := by decide +kernel
theorem dX4_suspectAt_152 : decode cX4_suspectAt 152 = .ok (.iload 5, 2) := by decide +kernel
theorem dX4_suspectAt_154 : decode cX4_suspectAt 154 = .ok (.iload_n 1, 1) := by decide +kernel
theorem dX4_suspectAt_155 : decode cX4_suspectAt 155 = .ok (.iload_n 2, 1) := by decide +kernel
theorem dX4_suspectAt_156 : decode cX4_suspectAt 156 = .ok (.invokevirtual 128, 3) := by decide +kernel
theorem dX4_suspectAt_159 : decode cX4_suspectAt 159 = .ok (.ifCond .eq 14, 3) := by decide +kernel
theorem dX4_suspectAt_162 : decode cX4_suspectAt 162 = .ok (.iload 6, 2) := by decide +kernel
theorem dX4_suspectAt_164 : decode cX4_suspectAt 164 = .ok (.iload_n 3, 1) := by decide +kernel
theorem dX4_suspectAt_165 : decode cX4_suspectAt 165 = .ok (.if_icmp .ne 8, 3) := by decide +kernel
theorem dX4_suspectAt_168 : decode cX4_suspectAt 168 = .ok (.iload 5, 2) := by decide +kernel
theorem dX4_suspectAt_170 : decode cX4_suspectAt 170 = .ok (.goto 5, 3) := by decide +kernel
theorem dX4_suspectAt_173 : decode cX4_suspectAt 173 = .ok (.iload 4, 2) := by decide +kernel
theorem dX4_suspectAt_175 : decode cX4_suspectAt 175 = .ok (.istore 4, 2) := by decide +kernel
theorem dX4_suspectAt_177 : decode cX4_suspectAt 177 = .ok (.iinc 5 1, 3) := by decide +kernel
theorem dX4_suspectAt_180 : decode cX4_suspectAt 180 = .ok (.goto (-114), 3) := by decide +kernel
theorem dX4_suspectAt_183 : decode cX4_suspectAt 183 = .ok (.iload 4, 2) := by decide +kernel
theorem dX4_suspectAt_185 : decode cX4_suspectAt 185 = .ok (.ireturn, 1) := by decide +kernel
theorem dX4_change_0 : decode cX4_change 0 = .ok (.aload_n 0, 1) := by decide +kernel
theorem dX4_change_1 : decode cX4_change 1 = .ok (.getfield 30, 3) := by decide +kernel
theorem dX4_change_4 : decode cX4_change 4 = .ok (.iload_n 1, 1) := by decide +kernel
theorem dX4_change_5 : decode cX4_change 5 = .ok (.aload_n 0, 1) := by decide +kernel
theorem dX4_change_6 : decode cX4_change 6 = .ok (.getfield 30, 3) := by decide +kernel
theorem dX4_change_9 : decode cX4_change 9 = .ok (.iload_n 1, 1) := by decide +kernel
theorem dX4_change_10 : decode cX4_change 10 = .ok (.baload, 1) := by decide +kernel
theorem dX4_change_11 : decode cX4_change 11 = .ok (.ifCond .ne 7, 3) := by decide +kernel
theorem dX4_change_14 : decode cX4_change 14 = .ok (.iconst 1, 1) := by decide +kernel
theorem dX4_change_15 : decode cX4_change 15 = .ok (.goto 4, 3) := by decide +kernel
theorem dX4_change_18 : decode cX4_change 18 = .ok (.iconst 0, 1) := by decide +kernel
theorem dX4_change_19 : decode cX4_change 19 = .ok (.bastore, 1) := by decide +kernel
theorem dX4_change_20 : decode cX4_change 20 = .ok (.aload_n 0, 1) := by decide +kernel
theorem dX4_change_21 : decode cX4_change 21 = .ok (.getfield 33, 3) := by decide +kernel
theorem dX4_change_24 : decode cX4_change 24 = .ok (.iload_n 1, 1) := by decide +kernel
theorem dX4_change_25 : decode cX4_change 25 = .ok (.dup2, 1) := by decide +kernel
theorem dX4_change_26 : decode cX4_change 26 = .ok (.iaload, 1) := by decide +kernel
theorem dX4_change_27 : decode cX4_change 27 = .ok (.iconst 1, 1) := by decide +kernel
theorem dX4_change_28 : decode cX4_change 28 = .ok (.iadd, 1) := by decide +kernel
theorem dX4_change_29 : decode cX4_change 29 = .ok (.iastore, 1) := by decide +kernel
theorem dX4_change_30 : decode cX4_change 30 = .ok (.aload_n 0, 1) := by decide +kernel
theorem dX4_change_31 : decode cX4_change 31 = .ok (.dup, 1) := by decide +kernel
theorem dX4_change_32 : decode cX4_change 32 = .ok (.getfield 134, 3) := by decide +kernel
theorem dX4_change_35 : decode cX4_change 35 = .ok (.lconst 1, 1) := by decide +kernel
theorem dX4_change_36 : decode cX4_change 36 = .ok (.ladd, 1) := by decide +kernel
theorem dX4_change_37 : decode cX4_change 37 = .ok (.putfield 134, 3) := by decide +kernel
theorem dX4_change_40 : decode cX4_change 40 = .ok (.return_, 1) := by decide +kernel
theorem dX4_wipe_0 : decode cX4_wipe 0 = .ok (.bipush 32, 2) := by decide +kernel
theorem dX4_wipe_2 : decode cX4_wipe 2 = .ok (.iload_n 1, 1) := by decide +kernel
theorem dX4_wipe_3 : decode cX4_wipe 3 = .ok (.imul, 1) := by decide +kernel
theorem dX4_wipe_4 : decode cX4_wipe 4 = .ok (.istore_n 2, 1) := by decide +kernel
theorem dX4_wipe_5 : decode cX4_wipe 5 = .ok (.iload_n 2, 1) := by decide +kernel
theorem dX4_wipe_6 : decode cX4_wipe 6 = .ok (.bipush 32, 2) := by decide +kernel
theorem dX4_wipe_8 : decode cX4_wipe 8 = .ok (.iload_n 1, 1) := by decide +kernel
theorem dX4_wipe_9 : decode cX4_wipe 9 = .ok (.imul, 1) := by decide +kernel
theorem dX4_wipe_10 : decode cX4_wipe 10 = .ok (.bipush 32, 2) := by decide +kernel
theorem dX4_wipe_12 : decode cX4_wipe 12 = .ok (.iadd, 1) := by decide +kernel
theorem dX4_wipe_13 : decode cX4_wipe 13 = .ok (.if_icmp .ge 33, 3) := by decide +kernel
theorem dX4_wipe_16 : decode cX4_wipe 16 = .ok (.aload_n 0, 1) := by decide +kernel
theorem dX4_wipe_17 : decode cX4_wipe 17 = .ok (.getfield 30, 3) := by decide +kernel
theorem dX4_wipe_20 : decode cX4_wipe 20 = .ok (.iload_n 2, 1) := by decide +kernel
theorem dX4_wipe_21 : decode cX4_wipe 21 = .ok (.baload, 1) := by decide +kernel
theorem dX4_wipe_22 : decode cX4_wipe 22 = .ok (.ifCond .eq 18, 3) := by decide +kernel
theorem dX4_wipe_25 : decode cX4_wipe 25 = .ok (.aload_n 0, 1) := by decide +kernel
theorem dX4_wipe_26 : decode cX4_wipe 26 = .ok (.iload_n 2, 1) := by decide +kernel
theorem dX4_wipe_27 : decode cX4_wipe 27 = .ok (.invokevirtual 138, 3) := by decide +kernel
theorem dX4_wipe_30 : decode cX4_wipe 30 = .ok (.aload_n 0, 1) := by decide +kernel
theorem dX4_wipe_31 : decode cX4_wipe 31 = .ok (.getfield 17, 3) := by decide +kernel
theorem dX4_wipe_34 : decode cX4_wipe 34 = .ok (.iload_n 1, 1) := by decide +kernel
theorem dX4_wipe_35 : decode cX4_wipe 35 = .ok (.dup2, 1) := by decide +kernel
theorem dX4_wipe_36 : decode cX4_wipe 36 = .ok (.iaload, 1) := by decide +kernel
theorem dX4_wipe_37 : decode cX4_wipe 37 = .ok (.iconst 1, 1) := by decide +kernel
theorem dX4_wipe_38 : decode cX4_wipe 38 = .ok (.isub, 1) := by decide +kernel
theorem dX4_wipe_39 : decode cX4_wipe 39 = .ok (.iastore, 1) := by decide +kernel
theorem dX4_wipe_40 : decode cX4_wipe 40 = .ok (.iinc 2 1, 3) := by decide +kernel
theorem dX4_wipe_43 : decode cX4_wipe 43 = .ok (.goto (-38), 3) := by decide +kernel
theorem dX4_wipe_46 : decode cX4_wipe 46 = .ok (.aload_n 0, 1) := by decide +kernel
theorem dX4_wipe_47 : decode cX4_wipe 47 = .ok (.getfield 20, 3) := by decide +kernel
theorem dX4_wipe_50 : decode cX4_wipe 50 = .ok (.iload_n 1, 1) := by decide +kernel
theorem dX4_wipe_51 : decode cX4_wipe 51 = .ok (.iconst (-1), 1) := by decide +kernel
theorem dX4_wipe_52 : decode cX4_wipe 52 = .ok (.iastore, 1) := by decide +kernel
theorem dX4_wipe_53 : decode cX4_wipe 53 = .ok (.aload_n 0, 1) := by decide +kernel
theorem dX4_wipe_54 : decode cX4_wipe 54 = .ok (.getfield 23, 3) := by decide +kernel
theorem dX4_wipe_57 : decode cX4_wipe 57 = .ok (.iload_n 1, 1) := by decide +kernel
theorem dX4_wipe_58 : decode cX4_wipe 58 = .ok (.iconst 0, 1) := by decide +kernel
theorem dX4_wipe_59 : decode cX4_wipe 59 = .ok (.iastore, 1) := by decide +kernel
theorem dX4_wipe_60 : decode cX4_wipe 60 = .ok (.return_, 1) := by decide +kernel
theorem dX4_differs_0 : decode cX4_differs 0 = .ok (.aload_n 0, 1) := by decide +kernel
theorem dX4_differs_1 : decode cX4_differs 1 = .ok (.getfield 30, 3) := by decide +kernel
theorem dX4_differs_4 : decode cX4_differs 4 = .ok (.bipush 32, 2) := by decide +kernel
theorem dX4_differs_6 : decode cX4_differs 6 = .ok (.iload_n 1, 1) := by decide +kernel
theorem dX4_differs_7 : decode cX4_differs 7 = .ok (.imul, 1) := by decide +kernel
theorem dX4_differs_8 : decode cX4_differs 8 = .ok (.iload 4, 2) := by decide +kernel
theorem dX4_differs_10 : decode cX4_differs 10 = .ok (.iadd, 1) := by decide +kernel
theorem dX4_differs_11 : decode cX4_differs 11 = .ok (.baload, 1) := by decide +kernel
theorem dX4_differs_12 : decode cX4_differs 12 = .ok (.iload_n 2, 1) := by decide +kernel
theorem dX4_differs_13 : decode cX4_differs 13 = .ok (.iload_n 3, 1) := by decide +kernel
theorem dX4_differs_14 : decode cX4_differs 14 = .ok (.iload 4, 2) := by decide +kernel
theorem dX4_differs_16 : decode cX4_differs 16 = .ok (.invokestatic 77, 3) := by decide +kernel
theorem dX4_differs_19 : decode cX4_differs 19 = .ok (.if_icmp .eq 7, 3) := by decide +kernel
theorem dX4_differs_22 : decode cX4_differs 22 = .ok (.iconst 1, 1) := by decide +kernel
theorem dX4_differs_23 : decode cX4_differs 23 = .ok (.goto 4, 3) := by decide +kernel
theorem dX4_differs_26 : decode cX4_differs 26 = .ok (.iconst 0, 1) := by decide +kernel
theorem dX4_differs_27 : decode cX4_differs 27 = .ok (.ireturn, 1) := by decide +kernel
theorem dX4_costs_0 : decode cX4_costs 0 = .ok (.iconst 0, 1) := by decide +kernel
theorem dX4_costs_1 : decode cX4_costs 1 = .ok (.istore 4, 2) := by decide +kernel
theorem dX4_costs_3 : decode cX4_costs 3 = .ok (.iconst 0, 1) := by decide +kernel
theorem dX4_costs_4 : decode cX4_costs 4 = .ok (.istore 5, 2) := by decide +kernel
theorem dX4_costs_6 : decode cX4_costs 6 = .ok (.iload 5, 2) := by decide +kernel
theorem dX4_costs_8 : decode cX4_costs 8 = .ok (.bipush 32, 2) := by decide +kernel
theorem dX4_costs_10 : decode cX4_costs 10 = .ok (.if_icmp .ge 31, 3) := by decide +kernel
theorem dX4_costs_13 : decode cX4_costs 13 = .ok (.iload 4, 2) := by decide +kernel
theorem dX4_costs_15 : decode cX4_costs 15 = .ok (.aload_n 0, 1) := by decide +kernel
theorem dX4_costs_16 : decode cX4_costs 16 = .ok (.iload_n 1, 1) := by decide +kernel
theorem dX4_costs_17 : decode cX4_costs 17 = .ok (.iload_n 2, 1) := by decide +kernel
theorem dX4_costs_18 : decode cX4_costs 18 = .ok (.iload_n 3, 1) := by decide +kernel
theorem dX4_costs_19 : decode cX4_costs 19 = .ok (.iload 5, 2) := by decide +kernel
theorem dX4_costs_21 : decode cX4_costs 21 = .ok (.invokevirtual 142, 3) := by decide +kernel
theorem dX4_costs_24 : decode cX4_costs 24 = .ok (.ifCond .eq 7, 3) := by decide +kernel
theorem dX4_costs_27 : decode cX4_costs 27 = .ok (.iconst 1, 1) := by decide +kernel
theorem dX4_costs_28 : decode cX4_costs 28 = .ok (.goto 4, 3) := by decide +kernel
theorem dX4_costs_31 : decode cX4_costs 31 = .ok (.iconst 0, 1) := by decide +kernel
theorem dX4_costs_32 : decode cX4_costs 32 = .ok (.iadd, 1) := by decide +kernel
theorem dX4_costs_33 : decode cX4_costs 33 = .ok (.istore 4, 2) := by decide +kernel
theorem dX4_costs_35 : decode cX4_costs 35 = .ok (.iinc 5 1, 3) := by decide +kernel
theorem dX4_costs_38 : decode cX4_costs 38 = .ok (.goto (-32), 3) := by decide +kernel
theorem dX4_costs_41 : decode cX4_costs 41 = .ok (.iload 4, 2) := by decide +kernel
theorem dX4_costs_43 : decode cX4_costs 43 = .ok (.ireturn, 1) := by decide +kernel
theorem dX4_worstBehind_0 : decode cX4_worstBehind 0 = .ok (.iconst 0, 1) := by decide +kernel
theorem dX4_worstBehind_1 : decode cX4_worstBehind 1 = .ok (.istore 4, 2) := by decide +kernel
theorem dX4_worstBehind_3 : decode cX4_worstBehind 3 = .ok (.iconst 0, 1) := by decide +kernel
theorem dX4_worstBehind_4 : decode cX4_worstBehind 4 = .ok (.istore 5, 2) := by decide +kernel
theorem dX4_worstBehind_6 : decode cX4_worstBehind 6 = .ok (.iload 5, 2) := by decide +kernel
theorem dX4_worstBehind_8 : decode cX4_worstBehind 8 = .ok (.bipush 32, 2) := by decide +kernel
theorem dX4_worstBehind_10 : decode cX4_worstBehind 10 = .ok (.if_icmp .ge 46, 3) := by decide +kernel
theorem dX4_worstBehind_13 : decode cX4_worstBehind 13 = .ok (.iload 4, 2) := by decide +kernel
theorem dX4_worstBehind_15 : decode cX4_worstBehind 15 = .ok (.aload_n 0, 1) := by decide +kernel
theorem dX4_worstBehind_16 : decode cX4_worstBehind 16 = .ok (.getfield 33, 3) := by decide +kernel
theorem dX4_worstBehind_19 : decode cX4_worstBehind 19 = .ok (.bipush 32, 2) := by decide +kernel
theorem dX4_worstBehind_21 : decode cX4_worstBehind 21 = .ok (.iload_n 1, 1) := by decide +kernel
theorem dX4_worstBehind_22 : decode cX4_worstBehind 22 = .ok (.imul, 1) := by decide +kernel
theorem dX4_worstBehind_23 : decode cX4_worstBehind 23 = .ok (.iload 5, 2) := by decide +kernel
theorem dX4_worstBehind_25 : decode cX4_worstBehind 25 = .ok (.iadd, 1) := by decide +kernel
theorem dX4_worstBehind_26 : decode cX4_worstBehind 26 = .ok (.iaload, 1) := by decide +kernel
theorem dX4_worstBehind_27 : decode cX4_worstBehind 27 = .ok (.aload_n 0, 1) := by decide +kernel
theorem dX4_worstBehind_28 : decode cX4_worstBehind 28 = .ok (.iload_n 1, 1) := by decide +kernel
theorem dX4_worstBehind_29 : decode cX4_worstBehind 29 = .ok (.iload_n 2, 1) := by decide +kernel
theorem dX4_worstBehind_30 : decode cX4_worstBehind 30 = .ok (.iload_n 3, 1) := by decide +kernel
theorem dX4_worstBehind_31 : decode cX4_worstBehind 31 = .ok (.iload 5, 2) := by decide +kernel
theorem dX4_worstBehind_33 : decode cX4_worstBehind 33 = .ok (.invokevirtual 142, 3) := by decide +kernel
theorem dX4_worstBehind_36 : decode cX4_worstBehind 36 = .ok (.ifCond .eq 7, 3) := by decide +kernel
theorem dX4_worstBehind_39 : decode cX4_worstBehind 39 = .ok (.iconst 1, 1) := by decide +kernel
theorem dX4_worstBehind_40 : decode cX4_worstBehind 40 = .ok (.goto 4, 3) := by decide +kernel
theorem dX4_worstBehind_43 : decode cX4_worstBehind 43 = .ok (.iconst 0, 1) := by decide +kernel
theorem dX4_worstBehind_44 : decode cX4_worstBehind 44 = .ok (.iadd, 1) := by decide +kernel
theorem dX4_worstBehind_45 : decode cX4_worstBehind 45 = .ok (.invokestatic 108, 3) := by decide +kernel
theorem dX4_worstBehind_48 : decode cX4_worstBehind 48 = .ok (.istore 4, 2) := by decide +kernel
theorem dX4_worstBehind_50 : decode cX4_worstBehind 50 = .ok (.iinc 5 1, 3) := by decide +kernel
theorem dX4_worstBehind_53 : decode cX4_worstBehind 53 = .ok (.goto (-47), 3) := by decide +kernel
theorem dX4_worstBehind_56 : decode cX4_worstBehind 56 = .ok (.iload 4, 2) := by decide +kernel
theorem dX4_worstBehind_58 : decode cX4_worstBehind 58 = .ok (.ireturn, 1) := by decide +kernel
theorem dX4_can_0 : decode cX4_can 0 = .ok (.aload_n 0, 1) := by decide +kernel
theorem dX4_can_1 : decode cX4_can 1 = .ok (.getfield 17, 3) := by decide +kernel
theorem dX4_can_4 : decode cX4_can 4 = .ok (.iload_n 1, 1) := by decide +kernel
theorem dX4_can_5 : decode cX4_can 5 = .ok (.iaload, 1) := by decide +kernel
theorem dX4_can_6 : decode cX4_can 6 = .ok (.aload_n 0, 1) := by decide +kernel
theorem dX4_can_7 : decode cX4_can 7 = .ok (.iload_n 1, 1) := by decide +kernel
theorem dX4_can_8 : decode cX4_can 8 = .ok (.iload_n 2, 1) := by decide +kernel
theorem dX4_can_9 : decode cX4_can 9 = .ok (.iload_n 3, 1) := by decide +kernel
theorem dX4_can_10 : decode cX4_can 10 = .ok (.invokevirtual 146, 3) := by decide +kernel
theorem dX4_can_13 : decode cX4_can 13 = .ok (.iload_n 2, 1) := by decide +kernel
theorem dX4_can_14 : decode cX4_can 14 = .ok (.invokestatic 150, 3) := by decide +kernel
theorem dX4_can_17 : decode cX4_can 17 = .ok (.iadd, 1) := by decide +kernel
theorem dX4_can_18 : decode cX4_can 18 = .ok (.if_icmp .lt 7, 3) := by decide +kernel
theorem dX4_can_21 : decode cX4_can 21 = .ok (.iconst 1, 1) := by decide +kernel
theorem dX4_can_22 : decode cX4_can 22 = .ok (.goto 4, 3) := by decide +kernel
theorem dX4_can_25 : decode cX4_can 25 = .ok (.iconst 0, 1) := by decide +kernel
theorem dX4_can_26 : decode cX4_can 26 = .ok (.istore 4, 2) := by decide +kernel
theorem dX4_can_28 : decode cX4_can 28 = .ok (.iconst 0, 1) := by decide +kernel
theorem dX4_can_29 : decode cX4_can 29 = .ok (.istore 5, 2) := by decide +kernel
theorem dX4_can_31 : decode cX4_can 31 = .ok (.iload 5, 2) := by decide +kernel
theorem dX4_can_33 : decode cX4_can 33 = .ok (.bipush 32, 2) := by decide +kernel
theorem dX4_can_35 : decode cX4_can 35 = .ok (.if_icmp .ge 76, 3) := by decide +kernel
theorem dX4_can_38 : decode cX4_can 38 = .ok (.aload_n 0, 1) := by decide +kernel
theorem dX4_can_39 : decode cX4_can 39 = .ok (.getfield 33, 3) := by decide +kernel
theorem dX4_can_42 : decode cX4_can 42 = .ok (.bipush 32, 2) := by decide +kernel
theorem dX4_can_44 : decode cX4_can 44 = .ok (.iload_n 1, 1) := by decide +kernel
theorem dX4_can_45 : decode cX4_can 45 = .ok (.imul, 1) := by decide +kernel
theorem dX4_can_46 : decode cX4_can 46 = .ok (.iload 5, 2) := by decide +kernel
theorem dX4_can_48 : decode cX4_can 48 = .ok (.iadd, 1) := by decide +kernel
theorem dX4_can_49 : decode cX4_can 49 = .ok (.iaload, 1) := by decide +kernel
theorem dX4_can_50 : decode cX4_can 50 = .ok (.aload_n 0, 1) := by decide +kernel
theorem dX4_can_51 : decode cX4_can 51 = .ok (.iload_n 1, 1) := by decide +kernel
theorem dX4_can_52 : decode cX4_can 52 = .ok (.iload_n 2, 1) := by decide +kernel
theorem dX4_can_53 : decode cX4_can 53 = .ok (.iload_n 3, 1) := by decide +kernel
theorem dX4_can_54 : decode cX4_can 54 = .ok (.iload 5, 2) := by decide +kernel
theorem dX4_can_56 : decode cX4_can 56 = .ok (.invokevirtual 142, 3) := by decide +kernel
theorem dX4_can_59 : decode cX4_can 59 = .ok (.ifCond .eq 7, 3) := by decide +kernel
theorem dX4_can_62 : decode cX4_can 62 = .ok (.iconst 1, 1) := by decide +kernel
theorem dX4_can_63 : decode cX4_can 63 = .ok (.goto 4, 3) := by decide +kernel
theorem dX4_can_66 : decode cX4_can 66 = .ok (.iconst 0, 1) := by decide +kernel
theorem dX4_can_67 : decode cX4_can 67 = .ok (.iadd, 1) := by decide +kernel
theorem dX4_can_68 : decode cX4_can 68 = .ok (.iload_n 2, 1) := by decide +kernel
theorem dX4_can_69 : decode cX4_can 69 = .ok (.iload_n 3, 1) := by decide +kernel
theorem dX4_can_70 : decode cX4_can 70 = .ok (.iload 5, 2) := by decide +kernel
theorem dX4_can_72 : decode cX4_can 72 = .ok (.invokestatic 77, 3) := by decide +kernel
theorem dX4_can_75 : decode cX4_can 75 = .ok (.ifCond .eq 7, 3) := by decide +kernel
theorem dX4_can_78 : decode cX4_can 78 = .ok (.iconst 1, 1) := by decide +kernel
theorem dX4_can_79 : decode cX4_can 79 = .ok (.goto 4, 3) := by decide +kernel
theorem dX4_can_82 : decode cX4_can 82 = .ok (.iconst 0, 1) := by decide +kernel
theorem dX4_can_83 : decode cX4_can 83 = .ok (.iadd, 1) := by decide +kernel
theorem dX4_can_84 : decode cX4_can 84 = .ok (.istore 6, 2) := by decide +kernel
theorem dX4_can_86 : decode cX4_can 86 = .ok (.iload 4, 2) := by decide +kernel
theorem dX4_can_88 : decode cX4_can 88 = .ok (.ifCond .eq 14, 3) := by decide +kernel
theorem dX4_can_91 : decode cX4_can 91 = .ok (.iload 6, 2) := by decide +kernel
theorem dX4_can_93 : decode cX4_can 93 = .ok (.bipush 60, 2) := by decide +kernel
theorem dX4_can_95 : decode cX4_can 95 = .ok (.if_icmp .gt 7, 3) := by decide +kernel
theorem dX4_can_98 : decode cX4_can 98 = .ok (.iconst 1, 1) := by decide +kernel
theorem dX4_can_99 : decode cX4_can 99 = .ok (.goto 4, 3) := by decide +kernel
theorem dX4_can_102 : decode cX4_can 102 = .ok (.iconst 0, 1) := by decide +kernel
theorem dX4_can_103 : decode cX4_can 103 = .ok (.istore 4, 2) := by decide +kernel
theorem dX4_can_105 : decode cX4_can 105 = .ok (.iinc 5 1, 3) := by decide +kernel
theorem dX4_can_108 : decode cX4_can 108 = .ok (.goto (-77), 3) := by decide +kernel
theorem dX4_can_111 : decode cX4_can 111 = .ok (.iload 4, 2) := by decide +kernel
theorem dX4_can_113 : decode cX4_can 113 = .ok (.ireturn, 1) := by decide +kernel
theorem dX4_shiftFor_0 : decode cX4_shiftFor 0 = .ok (.iconst (-1), 1) := by decide +kernel
theorem dX4_shiftFor_1 : decode cX4_shiftFor 1 = .ok (.istore_n 3, 1) := by decide +kernel
theorem dX4_shiftFor_2 : decode cX4_shiftFor 2 = .ok (.iconst 0, 1) := by decide +kernel
theorem dX4_shiftFor_3 : decode cX4_shiftFor 3 = .ok (.istore 4, 2) := by decide +kernel
theorem dX4_shiftFor_5 : decode cX4_shiftFor 5 = .ok (.iload 4, 2) := by decide +kernel
theorem dX4_shiftFor_7 : decode cX4_shiftFor 7 = .ok (.bipush 8, 2) := by decide +kernel
theorem dX4_shiftFor_9 : decode cX4_shiftFor 9 = .ok (.if_icmp .ge 94, 3) := by decide +kernel
theorem dX4_shiftFor_12 : decode cX4_shiftFor 12 = .ok (.aload_n 0, 1) := by decide +kernel
theorem dX4_shiftFor_13 : decode cX4_shiftFor 13 = .ok (.iload_n 1, 1) := by decide +kernel
theorem dX4_shiftFor_14 : decode cX4_shiftFor 14 = .ok (.iload_n 2, 1) := by decide +kernel
theorem dX4_shiftFor_15 : decode cX4_shiftFor 15 = .ok (.iload 4, 2) := by decide +kernel
theorem dX4_shiftFor_17 : decode cX4_shiftFor 17 = .ok (.invokevirtual 153, 3) := by decide +kernel
theorem dX4_shiftFor_20 : decode cX4_shiftFor 20 = .ok (.ifCond .eq 77, 3) := by decide +kernel
theorem dX4_shiftFor_23 : decode cX4_shiftFor 23 = .ok (.iload_n 3, 1) := by decide +kernel
theorem dX4_shiftFor_24 : decode cX4_shiftFor 24 = .ok (.iconst (-1), 1) := by decide +kernel
theorem dX4_shiftFor_25 : decode cX4_shiftFor 25 = .ok (.if_icmp .ne 7, 3) := by decide +kernel
theorem dX4_shiftFor_28 : decode cX4_shiftFor 28 = .ok (.iconst (-1), 1) := by decide +kernel
theorem dX4_shiftFor_29 : decode cX4_shiftFor 29 = .ok (.goto 19, 3) := by decide +kernel
theorem dX4_shiftFor_32 : decode cX4_shiftFor 32 = .ok (.aload_n 0, 1) := by decide +kernel
theorem dX4_shiftFor_33 : decode cX4_shiftFor 33 = .ok (.iload_n 1, 1) := by decide +kernel
theorem dX4_shiftFor_34 : decode cX4_shiftFor 34 = .ok (.iload_n 2, 1) := by decide +kernel
theorem dX4_shiftFor_35 : decode cX4_shiftFor 35 = .ok (.iload 4, 2) := by decide +kernel
theorem dX4_shiftFor_37 : decode cX4_shiftFor 37 = .ok (.invokevirtual 156, 3) := by decide +kernel
theorem dX4_shiftFor_40 : decode cX4_shiftFor 40 = .ok (.aload_n 0, 1) := by decide +kernel
theorem dX4_shiftFor_41 : decode cX4_shiftFor 41 = .ok (.iload_n 1, 1) := by decide +kernel
theorem dX4_shiftFor_42 : decode cX4_shiftFor 42 = .ok (.iload_n 2, 1) := by decide +kernel
theorem dX4_shiftFor_43 : decode cX4_shiftFor 43 = .ok (.iload_n 3, 1) := by decide +kernel
theorem dX4_shiftFor_44 : decode cX4_shiftFor 44 = .ok (.invokevirtual 156, 3) := by decide +kernel
theorem dX4_shiftFor_47 : decode cX4_shiftFor 47 = .ok (.isub, 1) := by decide +kernel
theorem dX4_shiftFor_48 : decode cX4_shiftFor 48 = .ok (.istore 5, 2) := by decide +kernel
theorem dX4_shiftFor_50 : decode cX4_shiftFor 50 = .ok (.iload 5, 2) := by decide +kernel
theorem dX4_shiftFor_52 : decode cX4_shiftFor 52 = .ok (.ifCond .lt 26, 3) := by decide +kernel
theorem dX4_shiftFor_55 : decode cX4_shiftFor 55 = .ok (.iload 5, 2) := by decide +kernel
theorem dX4_shiftFor_57 : decode cX4_shiftFor 57 = .ok (.ifCond .ne 25, 3) := by decide +kernel
theorem dX4_shiftFor_60 : decode cX4_shiftFor 60 = .ok (.aload_n 0, 1) := by decide +kernel
theorem dX4_shiftFor_61 : decode cX4_shiftFor 61 = .ok (.iload_n 1, 1) := by decide +kernel
theorem dX4_shiftFor_62 : decode cX4_shiftFor 62 = .ok (.iload_n 2, 1) := by decide +kernel
theorem dX4_shiftFor_63 : decode cX4_shiftFor 63 = .ok (.iload 4, 2) := by decide +kernel
theorem dX4_shiftFor_65 : decode cX4_shiftFor 65 = .ok (.invokevirtual 146, 3) := by decide +kernel
theorem dX4_shiftFor_68 : decode cX4_shiftFor 68 = .ok (.aload_n 0, 1) := by decide +kernel
theorem dX4_shiftFor_69 : decode cX4_shiftFor 69 = .ok (.iload_n 1, 1) := by decide +kernel
theorem dX4_shiftFor_70 : decode cX4_shiftFor 70 = .ok (.iload_n 2, 1) := by decide +kernel
theorem dX4_shiftFor_71 : decode cX4_shiftFor 71 = .ok (.iload_n 3, 1) := by decide +kernel
theorem dX4_shiftFor_72 : decode cX4_shiftFor 72 = .ok (.invokevirtual 146, 3) := by decide +kernel
theorem dX4_shiftFor_75 : decode cX4_shiftFor 75 = .ok (.if_icmp .ge 7, 3) := by decide +kernel
theorem dX4_shiftFor_78 : decode cX4_shiftFor 78 = .ok (.iconst 1, 1) := by decide +kernel
theorem dX4_shiftFor_79 : decode cX4_shiftFor 79 = .ok (.goto 4, 3) := by decide +kernel
theorem dX4_shiftFor_82 : decode cX4_shiftFor 82 = .ok (.iconst 0, 1) := by decide +kernel
theorem dX4_shiftFor_83 : decode cX4_shiftFor 83 = .ok (.istore 6, 2) := by decide +kernel
theorem dX4_shiftFor_85 : decode cX4_shiftFor 85 = .ok (.iload 6, 2) := by decide +kernel
theorem dX4_shiftFor_87 : decode cX4_shiftFor 87 = .ok (.ifCond .eq 8, 3) := by decide +kernel
theorem dX4_shiftFor_90 : decode cX4_shiftFor 90 = .ok (.iload 4, 2) := by decide +kernel
theorem dX4_shiftFor_92 : decode cX4_shiftFor 92 = .ok (.goto 4, 3) := by decide +kernel
theorem dX4_shiftFor_95 : decode cX4_shiftFor 95 = .ok (.iload_n 3, 1) := by decide +kernel
theorem dX4_shiftFor_96 : decode cX4_shiftFor 96 = .ok (.istore_n 3, 1) := by decide +kernel
theorem dX4_shiftFor_97 : decode cX4_shiftFor 97 = .ok (.iinc 4 1, 3) := by decide +kernel
theorem dX4_shiftFor_100 : decode cX4_shiftFor 100 = .ok (.goto (-95), 3) := by decide +kernel
theorem dX4_shiftFor_103 : decode cX4_shiftFor 103 = .ok (.iload_n 3, 1) := by decide +kernel
theorem dX4_shiftFor_104 : decode cX4_shiftFor 104 = .ok (.ireturn, 1) := by decide +kernel
theorem dX4_show_0 : decode cX4_show 0 = .ok (.iconst 0, 1) := by decide +kernel
theorem dX4_show_1 : decode cX4_show 1 = .ok (.istore 4, 2) := by decide +kernel
theorem dX4_show_3 : decode cX4_show 3 = .ok (.iload 4, 2) := by decide +kernel
theorem dX4_show_5 : decode cX4_show 5 = .ok (.bipush 32, 2) := by decide +kernel
theorem dX4_show_7 : decode cX4_show 7 = .ok (.if_icmp .ge 47, 3) := by decide +kernel
theorem dX4_show_10 : decode cX4_show 10 = .ok (.aload_n 0, 1) := by decide +kernel
theorem dX4_show_11 : decode cX4_show 11 = .ok (.iload_n 1, 1) := by decide +kernel
theorem dX4_show_12 : decode cX4_show 12 = .ok (.aload_n 0, 1) := by decide +kernel
theorem dX4_show_13 : decode cX4_show 13 = .ok (.getfield 39, 3) := by decide +kernel
theorem dX4_show_16 : decode cX4_show 16 = .ok (.iload_n 2, 1) := by decide +kernel
theorem dX4_show_17 : decode cX4_show 17 = .ok (.iaload, 1) := by decide +kernel
theorem dX4_show_18 : decode cX4_show 18 = .ok (.iload_n 3, 1) := by decide +kernel
theorem dX4_show_19 : decode cX4_show 19 = .ok (.iload 4, 2) := by decide +kernel
theorem dX4_show_21 : decode cX4_show 21 = .ok (.invokevirtual 142, 3) := by decide +kernel
theorem dX4_show_24 : decode cX4_show 24 = .ok (.ifCond .eq 24, 3) := by decide +kernel
theorem dX4_show_27 : decode cX4_show 27 = .ok (.aload_n 0, 1) := by decide +kernel
theorem dX4_show_28 : decode cX4_show 28 = .ok (.bipush 32, 2) := by decide +kernel
theorem dX4_show_30 : decode cX4_show 30 = .ok (.iload_n 1, 1) := by decide +kernel
theorem dX4_show_31 : decode cX4_show 31 = .ok (.imul, 1) := by decide +kernel
theorem dX4_show_32 : decode cX4_show 32 = .ok (.iload 4, 2) := by decide +kernel
theorem dX4_show_34 : decode cX4_show 34 = .ok (.iadd, 1) := by decide +kernel
theorem dX4_show_35 : decode cX4_show 35 = .ok (.invokevirtual 138, 3) := by decide +kernel
theorem dX4_show_38 : decode cX4_show 38 = .ok (.aload_n 0, 1) := by decide +kernel
theorem dX4_show_39 : decode cX4_show 39 = .ok (.getfield 17, 3) := by decide +kernel
theorem dX4_show_42 : decode cX4_show 42 = .ok (.iload_n 1, 1) := by decide +kernel
theorem dX4_show_43 : decode cX4_show 43 = .ok (.dup2, 1) := by decide +kernel
theorem dX4_show_44 : decode cX4_show 44 = .ok (.iaload, 1) := by decide +kernel
theorem dX4_show_45 : decode cX4_show 45 = .ok (.iconst 1, 1) := by decide +kernel
theorem dX4_show_46 : decode cX4_show 46 = .ok (.isub, 1) := by decide +kernel
theorem dX4_show_47 : decode cX4_show 47 = .ok (.iastore, 1) := by decide +kernel
theorem dX4_show_48 : decode cX4_show 48 = .ok (.iinc 4 1, 3) := by decide +kernel
theorem dX4_show_51 : decode cX4_show 51 = .ok (.goto (-48), 3) := by decide +kernel
theorem dX4_show_54 : decode cX4_show 54 = .ok (.aload_n 0, 1) := by decide +kernel
theorem dX4_show_55 : decode cX4_show 55 = .ok (.getfield 20, 3) := by decide +kernel
theorem dX4_show_58 : decode cX4_show 58 = .ok (.iload_n 1, 1) := by decide +kernel
theorem dX4_show_59 : decode cX4_show 59 = .ok (.iload_n 2, 1) := by decide +kernel
theorem dX4_show_60 : decode cX4_show 60 = .ok (.iastore, 1) := by decide +kernel
theorem dX4_show_61 : decode cX4_show 61 = .ok (.aload_n 0, 1) := by decide +kernel
theorem dX4_show_62 : decode cX4_show 62 = .ok (.getfield 23, 3) := by decide +kernel
theorem dX4_show_65 : decode cX4_show 65 = .ok (.iload_n 1, 1) := by decide +kernel
theorem dX4_show_66 : decode cX4_show 66 = .ok (.iload_n 3, 1) := by decide +kernel
theorem dX4_show_67 : decode cX4_show 67 = .ok (.iastore, 1) := by decide +kernel
theorem dX4_show_68 : decode cX4_show 68 = .ok (.return_, 1) := by decide +kernel
theorem dX4_choose_0 : decode cX4_choose 0 = .ok (.aload_n 0, 1) := by decide +kernel
theorem dX4_choose_1 : decode cX4_choose 1 = .ok (.getfield 13, 3) := by decide +kernel
theorem dX4_choose_4 : decode cX4_choose 4 = .ok (.iload_n 1, 1) := by decide +kernel
theorem dX4_choose_5 : decode cX4_choose 5 = .ok (.iaload, 1) := by decide +kernel
theorem dX4_choose_6 : decode cX4_choose 6 = .ok (.istore_n 2, 1) := by decide +kernel
theorem dX4_choose_7 : decode cX4_choose 7 = .ok (.aload_n 0, 1) := by decide +kernel
theorem dX4_choose_8 : decode cX4_choose 8 = .ok (.getfield 26, 3) := by decide +kernel
theorem dX4_choose_11 : decode cX4_choose 11 = .ok (.iload_n 1, 1) := by decide +kernel
theorem dX4_choose_12 : decode cX4_choose 12 = .ok (.iconst 0, 1) := by decide +kernel
theorem dX4_choose_13 : decode cX4_choose 13 = .ok (.bastore, 1) := by decide +kernel
theorem dX4_choose_14 : decode cX4_choose 14 = .ok (.aload_n 0, 1) := by decide +kernel
theorem dX4_choose_15 : decode cX4_choose 15 = .ok (.iload_n 2, 1) := by decide +kernel
theorem dX4_choose_16 : decode cX4_choose 16 = .ok (.invokevirtual 118, 3) := by decide +kernel
theorem dX4_choose_19 : decode cX4_choose 19 = .ok (.istore_n 3, 1) := by decide +kernel
theorem dX4_choose_20 : decode cX4_choose 20 = .ok (.iconst 0, 1) := by decide +kernel
theorem dX4_choose_21 : decode cX4_choose 21 = .ok (.istore 4, 2) := by decide +kernel
theorem dX4_choose_23 : decode cX4_choose 23 = .ok (.iload 4, 2) := by decide +kernel
theorem dX4_choose_25 : decode cX4_choose 25 = .ok (.iload_n 3, 1) := by decide +kernel
theorem dX4_choose_26 : decode cX4_choose 26 = .ok (.if_icmp .ge 76, 3) := by decide +kernel
theorem dX4_choose_29 : decode cX4_choose 29 = .ok (.aload_n 0, 1) := by decide +kernel
theorem dX4_choose_30 : decode cX4_choose 30 = .ok (.iload_n 2, 1) := by decide +kernel
theorem dX4_choose_31 : decode cX4_choose 31 = .ok (.iload 4, 2) := by decide +kernel
theorem dX4_choose_33 : decode cX4_choose 33 = .ok (.invokevirtual 122, 3) := by decide +kernel
theorem dX4_choose_36 : decode cX4_choose 36 = .ok (.istore 5, 2) := by decide +kernel
theorem dX4_choose_38 : decode cX4_choose 38 = .ok (.aload_n 0, 1) := by decide +kernel
theorem dX4_choose_39 : decode cX4_choose 39 = .ok (.iload 5, 2) := by decide +kernel
theorem dX4_choose_41 : decode cX4_choose 41 = .ok (.invokevirtual 125, 3) := by decide +kernel
theorem dX4_choose_44 : decode cX4_choose 44 = .ok (.ifCond .eq 52, 3) := by decide +kernel
theorem dX4_choose_47 : decode cX4_choose 47 = .ok (.aload_n 0, 1) := by decide +kernel
theorem dX4_choose_48 : decode cX4_choose 48 = .ok (.getfield 20, 3) := by decide +kernel
theorem dX4_choose_51 : decode cX4_choose 51 = .ok (.iload_n 1, 1) := by decide +kernel
theorem dX4_choose_52 : decode cX4_choose 52 = .ok (.iaload, 1) := by decide +kernel
theorem dX4_choose_53 : decode cX4_choose 53 = .ok (.iload 5, 2) := by decide +kernel
theorem dX4_choose_55 : decode cX4_choose 55 = .ok (.if_icmp .ne 4, 3) := by decide +kernel
theorem dX4_choose_58 : decode cX4_choose 58 = .ok (.return_, 1) := by decide +kernel
theorem dX4_choose_59 : decode cX4_choose 59 = .ok (.aload_n 0, 1) := by decide +kernel
theorem dX4_choose_60 : decode cX4_choose 60 = .ok (.iload_n 1, 1) := by decide +kernel
theorem dX4_choose_61 : decode cX4_choose 61 = .ok (.aload_n 0, 1) := by decide +kernel
theorem dX4_choose_62 : decode cX4_choose 62 = .ok (.getfield 39, 3) := by decide +kernel
theorem dX4_choose_65 : decode cX4_choose 65 = .ok (.iload 5, 2) := by decide +kernel
theorem dX4_choose_67 : decode cX4_choose 67 = .ok (.iaload, 1) := by decide +kernel
theorem dX4_choose_68 : decode cX4_choose 68 = .ok (.invokevirtual 159, 3) := by decide +kernel
theorem dX4_choose_71 : decode cX4_choose 71 = .ok (.istore 6, 2) := by decide +kernel
theorem dX4_choose_73 : decode cX4_choose 73 = .ok (.iload 6, 2) := by decide +kernel
theorem dX4_choose_75 : decode cX4_choose 75 = .ok (.iconst (-1), 1) := by decide +kernel
theorem dX4_choose_76 : decode cX4_choose 76 = .ok (.if_icmp .eq 13, 3) := by decide +kernel
theorem dX4_choose_79 : decode cX4_choose 79 = .ok (.aload_n 0, 1) := by decide +kernel
theorem dX4_choose_80 : decode cX4_choose 80 = .ok (.iload_n 1, 1) := by decide +kernel
theorem dX4_choose_81 : decode cX4_choose 81 = .ok (.iload 5, 2) := by decide +kernel
theorem dX4_choose_83 : decode cX4_choose 83 = .ok (.iload 6, 2) := by decide +kernel
theorem dX4_choose_85 : decode cX4_choose 85 = .ok (.invokevirtual 162, 3) := by decide +kernel
theorem dX4_choose_88 : decode cX4_choose 88 = .ok (.return_, 1) := by decide +kernel
theorem dX4_choose_89 : decode cX4_choose 89 = .ok (.aload_n 0, 1) := by decide +kernel
theorem dX4_choose_90 : decode cX4_choose 90 = .ok (.getfield 26, 3) := by decide +kernel
theorem dX4_choose_93 : decode cX4_choose 93 = .ok (.iload_n 1, 1) := by decide +kernel
theorem dX4_choose_94 : decode cX4_choose 94 = .ok (.iconst 1, 1) := by decide +kernel
theorem dX4_choose_95 : decode cX4_choose 95 = .ok (.bastore, 1) := by decide +kernel
theorem dX4_choose_96 : decode cX4_choose 96 = .ok (.iinc 4 1, 3) := by decide +kernel
theorem dX4_choose_99 : decode cX4_choose 99 = .ok (.goto (-76), 3) := by decide +kernel
theorem dX4_choose_102 : decode cX4_choose 102 = .ok (.aload_n 0, 1) := by decide +kernel
theorem dX4_choose_103 : decode cX4_choose 103 = .ok (.iload_n 1, 1) := by decide +kernel
theorem dX4_choose_104 : decode cX4_choose 104 = .ok (.invokevirtual 166, 3) := by decide +kernel
theorem dX4_choose_107 : decode cX4_choose 107 = .ok (.return_, 1) := by decide +kernel
theorem dX4_go_0 : decode cX4_go 0 = .ok (.aload_n 0, 1) := by decide +kernel
theorem dX4_go_1 : decode cX4_go 1 = .ok (.iconst 0, 1) := by decide +kernel
theorem dX4_go_2 : decode cX4_go 2 = .ok (.putfield 64, 3) := by decide +kernel
theorem dX4_go_5 : decode cX4_go 5 = .ok (.aload_n 0, 1) := by decide +kernel
theorem dX4_go_6 : decode cX4_go 6 = .ok (.iload_n 1, 1) := by decide +kernel
theorem dX4_go_7 : decode cX4_go 7 = .ok (.iconst 1, 1) := by decide +kernel
theorem dX4_go_8 : decode cX4_go 8 = .ok (.bipush 48, 2) := by decide +kernel
theorem dX4_go_10 : decode cX4_go 10 = .ok (.invokestatic 70, 3) := by decide +kernel
theorem dX4_go_13 : decode cX4_go 13 = .ok (.ifCond .ne 7, 3) := by decide +kernel
theorem dX4_go_16 : decode cX4_go 16 = .ok (.iconst 1, 1) := by decide +kernel
theorem dX4_go_17 : decode cX4_go 17 = .ok (.goto 4, 3) := by decide +kernel
theorem dX4_go_20 : decode cX4_go 20 = .ok (.iconst 0, 1) := by decide +kernel
theorem dX4_go_21 : decode cX4_go 21 = .ok (.iconst 1, 1) := by decide +kernel
theorem dX4_go_22 : decode cX4_go 22 = .ok (.invokevirtual 84, 3) := by decide +kernel
theorem dX4_go_25 : decode cX4_go 25 = .ok (.ifCond .ne 28, 3) := by decide +kernel
theorem dX4_go_28 : decode cX4_go 28 = .ok (.aload_n 0, 1) := by decide +kernel
theorem dX4_go_29 : decode cX4_go 29 = .ok (.aload_n 0, 1) := by decide +kernel
theorem dX4_go_30 : decode cX4_go 30 = .ok (.getfield 101, 3) := by decide +kernel
theorem dX4_go_33 : decode cX4_go 33 = .ok (.iload_n 1, 1) := by decide +kernel
theorem dX4_go_34 : decode cX4_go 34 = .ok (.iadd, 1) := by decide +kernel
theorem dX4_go_35 : decode cX4_go 35 = .ok (.sipush 2000, 3) := by decide +kernel
theorem dX4_go_38 : decode cX4_go 38 = .ok (.if_icmp .le 7, 3) := by decide +kernel
theorem dX4_go_41 : decode cX4_go 41 = .ok (.iconst 1, 1) := by decide +kernel
theorem dX4_go_42 : decode cX4_go 42 = .ok (.goto 4, 3) := by decide +kernel
theorem dX4_go_45 : decode cX4_go 45 = .ok (.iconst 0, 1) := by decide +kernel
theorem dX4_go_46 : decode cX4_go 46 = .ok (.iconst 2, 1) := by decide +kernel
theorem dX4_go_47 : decode cX4_go 47 = .ok (.invokevirtual 84, 3) := by decide +kernel
theorem dX4_go_50 : decode cX4_go 50 = .ok (.ifCond .eq 5, 3) := by decide +kernel
theorem dX4_go_53 : decode cX4_go 53 = .ok (.iconst 0, 1) := by decide +kernel
theorem dX4_go_54 : decode cX4_go 54 = .ok (.ireturn, 1) := by decide +kernel
theorem dX4_go_55 : decode cX4_go 55 = .ok (.iconst 0, 1) := by decide +kernel
theorem dX4_go_56 : decode cX4_go 56 = .ok (.istore_n 2, 1) := by decide +kernel
theorem dX4_go_57 : decode cX4_go 57 = .ok (.iload_n 2, 1) := by decide +kernel
theorem dX4_go_58 : decode cX4_go 58 = .ok (.iload_n 1, 1) := by decide +kernel
theorem dX4_go_59 : decode cX4_go 59 = .ok (.if_icmp .ge 96, 3) := by decide +kernel
theorem dX4_go_62 : decode cX4_go 62 = .ok (.aload_n 0, 1) := by decide +kernel
theorem dX4_go_63 : decode cX4_go 63 = .ok (.dup, 1) := by decide +kernel
theorem dX4_go_64 : decode cX4_go 64 = .ok (.getfield 101, 3) := by decide +kernel
theorem dX4_go_67 : decode cX4_go 67 = .ok (.iconst 1, 1) := by decide +kernel
theorem dX4_go_68 : decode cX4_go 68 = .ok (.iadd, 1) := by decide +kernel
theorem dX4_go_69 : decode cX4_go 69 = .ok (.putfield 101, 3) := by decide +kernel
theorem dX4_go_72 : decode cX4_go 72 = .ok (.iconst 0, 1) := by decide +kernel
theorem dX4_go_73 : decode cX4_go 73 = .ok (.istore_n 3, 1) := by decide +kernel
theorem dX4_go_74 : decode cX4_go 74 = .ok (.iload_n 3, 1) := by decide +kernel
theorem dX4_go_75 : decode cX4_go 75 = .ok (.aload_n 0, 1) := by decide +kernel
theorem dX4_go_76 : decode cX4_go 76 = .ok (.getfield 67, 3) := by decide +kernel
theorem dX4_go_79 : decode cX4_go 79 = .ok (.if_icmp .ge 70, 3) := by decide +kernel
theorem dX4_go_82 : decode cX4_go 82 = .ok (.aload_n 0, 1) := by decide +kernel
theorem dX4_go_83 : decode cX4_go 83 = .ok (.getfield 17, 3) := by decide +kernel
theorem dX4_go_86 : decode cX4_go 86 = .ok (.iload_n 3, 1) := by decide +kernel
theorem dX4_go_87 : decode cX4_go 87 = .ok (.sipush 200, 3) := by decide +kernel
theorem dX4_go_90 : decode cX4_go 90 = .ok (.aload_n 0, 1) := by decide +kernel
theorem dX4_go_91 : decode cX4_go 91 = .ok (.getfield 17, 3) := by decide +kernel
theorem dX4_go_94 : decode cX4_go 94 = .ok (.iload_n 3, 1) := by decide +kernel
theorem dX4_go_95 : decode cX4_go 95 = .ok (.iaload, 1) := by decide +kernel
theorem dX4_go_96 : decode cX4_go 96 = .ok (.aload_n 0, 1) := by decide +kernel
theorem dX4_go_97 : decode cX4_go 97 = .ok (.getfield 7, 3) := by decide +kernel
theorem dX4_go_100 : decode cX4_go 100 = .ok (.iadd, 1) := by decide +kernel
theorem dX4_go_101 : decode cX4_go 101 = .ok (.invokestatic 104, 3) := by decide +kernel
theorem dX4_go_104 : decode cX4_go 104 = .ok (.iastore, 1) := by decide +kernel
theorem dX4_go_105 : decode cX4_go 105 = .ok (.aload_n 0, 1) := by decide +kernel
theorem dX4_go_106 : decode cX4_go 106 = .ok (.getfield 20, 3) := by decide +kernel
theorem dX4_go_109 : decode cX4_go 109 = .ok (.iload_n 3, 1) := by decide +kernel
theorem dX4_go_110 : decode cX4_go 110 = .ok (.iaload, 1) := by decide +kernel
theorem dX4_go_111 : decode cX4_go 111 = .ok (.iconst (-1), 1) := by decide +kernel
theorem dX4_go_112 : decode cX4_go 112 = .ok (.if_icmp .eq 26, 3) := by decide +kernel
theorem dX4_go_115 : decode cX4_go 115 = .ok (.aload_n 0, 1) := by decide +kernel
theorem dX4_go_116 : decode cX4_go 116 = .ok (.getfield 101, 3) := by decide +kernel
theorem dX4_go_119 : decode cX4_go 119 = .ok (.aload_n 0, 1) := by decide +kernel
theorem dX4_go_120 : decode cX4_go 120 = .ok (.getfield 45, 3) := by decide +kernel
theorem dX4_go_123 : decode cX4_go 123 = .ok (.aload_n 0, 1) := by decide +kernel
theorem dX4_go_124 : decode cX4_go 124 = .ok (.getfield 20, 3) := by decide +kernel
theorem dX4_go_127 : decode cX4_go 127 = .ok (.iload_n 3, 1) := by decide +kernel
theorem dX4_go_128 : decode cX4_go 128 = .ok (.iaload, 1) := by decide +kernel
theorem dX4_go_129 : decode cX4_go 129 = .ok (.iaload, 1) := by decide +kernel
theorem dX4_go_130 : decode cX4_go 130 = .ok (.if_icmp .lt 8, 3) := by decide +kernel
theorem dX4_go_133 : decode cX4_go 133 = .ok (.aload_n 0, 1) := by decide +kernel
theorem dX4_go_134 : decode cX4_go 134 = .ok (.iload_n 3, 1) := by decide +kernel
theorem dX4_go_135 : decode cX4_go 135 = .ok (.invokevirtual 166, 3) := by decide +kernel
theorem dX4_go_138 : decode cX4_go 138 = .ok (.aload_n 0, 1) := by decide +kernel
theorem dX4_go_139 : decode cX4_go 139 = .ok (.iload_n 3, 1) := by decide +kernel
theorem dX4_go_140 : decode cX4_go 140 = .ok (.invokevirtual 169, 3) := by decide +kernel
theorem dX4_go_143 : decode cX4_go 143 = .ok (.iinc 3 1, 3) := by decide +kernel
theorem dX4_go_146 : decode cX4_go 146 = .ok (.goto (-72), 3) := by decide +kernel
theorem dX4_go_149 : decode cX4_go 149 = .ok (.iinc 2 1, 3) := by decide +kernel
theorem dX4_go_152 : decode cX4_go 152 = .ok (.goto (-95), 3) := by decide +kernel
theorem dX4_go_155 : decode cX4_go 155 = .ok (.aload_n 0, 1) := by decide +kernel
theorem dX4_go_156 : decode cX4_go 156 = .ok (.getfield 101, 3) := by decide +kernel
theorem dX4_go_159 : decode cX4_go 159 = .ok (.ireturn, 1) := by decide +kernel
theorem dX4_hour_0 : decode cX4_hour 0 = .ok (.aload_n 0, 1) := by decide +kernel
theorem dX4_hour_1 : decode cX4_hour 1 = .ok (.iconst 0, 1) := by decide +kernel
theorem dX4_hour_2 : decode cX4_hour 2 = .ok (.putfield 64, 3) := by decide +kernel
theorem dX4_hour_5 : decode cX4_hour 5 = .ok (.aload_n 0, 1) := by decide +kernel
theorem dX4_hour_6 : decode cX4_hour 6 = .ok (.getfield 101, 3) := by decide +kernel
theorem dX4_hour_9 : decode cX4_hour 9 = .ok (.ireturn, 1) := by decide +kernel
theorem dX4_boards_0 : decode cX4_boards 0 = .ok (.aload_n 0, 1) := by decide +kernel
theorem dX4_boards_1 : decode cX4_boards 1 = .ok (.iconst 0, 1) := by decide +kernel
theorem dX4_boards_2 : decode cX4_boards 2 = .ok (.putfield 64, 3) := by decide +kernel
theorem dX4_boards_5 : decode cX4_boards 5 = .ok (.aload_n 0, 1) := by decide +kernel
theorem dX4_boards_6 : decode cX4_boards 6 = .ok (.getfield 67, 3) := by decide +kernel
theorem dX4_boards_9 : decode cX4_boards 9 = .ok (.ireturn, 1) := by decide +kernel
theorem dX4_notices_0 : decode cX4_notices 0 = .ok (.aload_n 0, 1) := by decide +kernel
theorem dX4_notices_1 : decode cX4_notices 1 = .ok (.iconst 0, 1) := by decide +kernel
theorem dX4_notices_2 : decode cX4_notices 2 = .ok (.putfield 64, 3) := by decide +kernel
theorem dX4_notices_5 : decode cX4_notices 5 = .ok (.aload_n 0, 1) := by decide +kernel
theorem dX4_notices_6 : decode cX4_notices 6 = .ok (.getfield 74, 3) := by decide +kernel
theorem dX4_notices_9 : decode cX4_notices 9 = .ok (.ireturn, 1) := by decide +kernel
theorem dX4_cellAnew_0 : decode cX4_cellAnew 0 = .ok (.aload_n 0, 1) := by decide +kernel
theorem dX4_cellAnew_1 : decode cX4_cellAnew 1 = .ok (.iload_n 1, 1) := by decide +kernel
theorem dX4_cellAnew_2 : decode cX4_cellAnew 2 = .ok (.iload_n 2, 1) := by decide +kernel
theorem dX4_cellAnew_3 : decode cX4_cellAnew 3 = .ok (.iload_n 3, 1) := by decide +kernel
theorem dX4_cellAnew_4 : decode cX4_cellAnew 4 = .ok (.invokevirtual 172, 3) := by decide +kernel
theorem dX4_cellAnew_7 : decode cX4_cellAnew 7 = .ok (.ireturn, 1) := by decide +kernel
theorem dX4_changes_0 : decode cX4_changes 0 = .ok (.aload_n 0, 1) := by decide +kernel
theorem dX4_changes_1 : decode cX4_changes 1 = .ok (.iconst 0, 1) := by decide +kernel
theorem dX4_changes_2 : decode cX4_changes 2 = .ok (.putfield 64, 3) := by decide +kernel
theorem dX4_changes_5 : decode cX4_changes 5 = .ok (.aload_n 0, 1) := by decide +kernel
theorem dX4_changes_6 : decode cX4_changes 6 = .ok (.getfield 134, 3) := by decide +kernel
theorem dX4_changes_9 : decode cX4_changes 9 = .ok (.lreturn, 1) := by decide +kernel
theorem dX4_worst_0 : decode cX4_worst 0 = .ok (.aload_n 0, 1) := by decide +kernel
theorem dX4_worst_1 : decode cX4_worst 1 = .ok (.iconst 0, 1) := by decide +kernel
theorem dX4_worst_2 : decode cX4_worst 2 = .ok (.putfield 64, 3) := by decide +kernel
theorem dX4_worst_5 : decode cX4_worst 5 = .ok (.aload_n 0, 1) := by decide +kernel
theorem dX4_worst_6 : decode cX4_worst 6 = .ok (.aload_n 0, 1) := by decide +kernel
theorem dX4_worst_7 : decode cX4_worst 7 = .ok (.iload_n 1, 1) := by decide +kernel
theorem dX4_worst_8 : decode cX4_worst 8 = .ok (.invokevirtual 88, 3) := by decide +kernel
theorem dX4_worst_11 : decode cX4_worst 11 = .ok (.iconst 1, 1) := by decide +kernel
theorem dX4_worst_12 : decode cX4_worst 12 = .ok (.invokevirtual 84, 3) := by decide +kernel
theorem dX4_worst_15 : decode cX4_worst 15 = .ok (.ifCond .eq 5, 3) := by decide +kernel
theorem dX4_worst_18 : decode cX4_worst 18 = .ok (.iconst 0, 1) := by decide +kernel
theorem dX4_worst_19 : decode cX4_worst 19 = .ok (.ireturn, 1) := by decide +kernel
theorem dX4_worst_20 : decode cX4_worst 20 = .ok (.iconst 0, 1) := by decide +kernel
theorem dX4_worst_21 : decode cX4_worst 21 = .ok (.istore_n 2, 1) := by decide +kernel
theorem dX4_worst_22 : decode cX4_worst 22 = .ok (.iconst 0, 1) := by decide +kernel
theorem dX4_worst_23 : decode cX4_worst 23 = .ok (.istore_n 3, 1) := by decide +kernel
theorem dX4_worst_24 : decode cX4_worst 24 = .ok (.iload_n 3, 1) := by decide +kernel
theorem dX4_worst_25 : decode cX4_worst 25 = .ok (.bipush 32, 2) := by decide +kernel
theorem dX4_worst_27 : decode cX4_worst 27 = .ok (.if_icmp .ge 25, 3) := by decide +kernel
theorem dX4_worst_30 : decode cX4_worst 30 = .ok (.iload_n 2, 1) := by decide +kernel
theorem dX4_worst_31 : decode cX4_worst 31 = .ok (.aload_n 0, 1) := by decide +kernel
theorem dX4_worst_32 : decode cX4_worst 32 = .ok (.getfield 33, 3) := by decide +kernel
theorem dX4_worst_35 : decode cX4_worst 35 = .ok (.bipush 32, 2) := by decide +kernel
theorem dX4_worst_37 : decode cX4_worst 37 = .ok (.iload_n 1, 1) := by decide +kernel
theorem dX4_worst_38 : decode cX4_worst 38 = .ok (.imul, 1) := by decide +kernel
theorem dX4_worst_39 : decode cX4_worst 39 = .ok (.iload_n 3, 1) := by decide +kernel
theorem dX4_worst_40 : decode cX4_worst 40 = .ok (.iadd, 1) := by decide +kernel
theorem dX4_worst_41 : decode cX4_worst 41 = .ok (.iaload, 1) := by decide +kernel
theorem dX4_worst_42 : decode cX4_worst 42 = .ok (.invokestatic 108, 3) := by decide +kernel
theorem dX4_worst_45 : decode cX4_worst 45 = .ok (.istore_n 2, 1) := by decide +kernel
theorem dX4_worst_46 : decode cX4_worst 46 = .ok (.iinc 3 1, 3) := by decide +kernel
theorem dX4_worst_49 : decode cX4_worst 49 = .ok (.goto (-25), 3) := by decide +kernel
theorem dX4_worst_52 : decode cX4_worst 52 = .ok (.iload_n 2, 1) := by decide +kernel
theorem dX4_worst_53 : decode cX4_worst 53 = .ok (.ireturn, 1) := by decide +kernel
theorem dX4_checksum_0 : decode cX4_checksum 0 = .ok (.aload_n 0, 1) := by decide +kernel
theorem dX4_checksum_1 : decode cX4_checksum 1 = .ok (.iconst 0, 1) := by decide +kernel
theorem dX4_checksum_2 : decode cX4_checksum 2 = .ok (.putfield 64, 3) := by decide +kernel
theorem dX4_checksum_5 : decode cX4_checksum 5 = .ok (.lconst 0, 1) := by decide +kernel
theorem dX4_checksum_6 : decode cX4_checksum 6 = .ok (.lstore_n 1, 1) := by decide +kernel
theorem dX4_checksum_7 : decode cX4_checksum 7 = .ok (.iconst 0, 1) := by decide +kernel
theorem dX4_checksum_8 : decode cX4_checksum 8 = .ok (.istore_n 3, 1) := by decide +kernel
theorem dX4_checksum_9 : decode cX4_checksum 9 = .ok (.iload_n 3, 1) := by decide +kernel
theorem dX4_checksum_10 : decode cX4_checksum 10 = .ok (.bipush 32, 2) := by decide +kernel
theorem dX4_checksum_12 : decode cX4_checksum 12 = .ok (.aload_n 0, 1) := by decide +kernel
theorem dX4_checksum_13 : decode cX4_checksum 13 = .ok (.getfield 67, 3) := by decide +kernel
theorem dX4_checksum_16 : decode cX4_checksum 16 = .ok (.imul, 1) := by decide +kernel
theorem dX4_checksum_17 : decode cX4_checksum 17 = .ok (.if_icmp .ge 43, 3) := by decide +kernel
theorem dX4_checksum_20 : decode cX4_checksum 20 = .ok (.ldc2_w 175, 3) := by decide +kernel
theorem dX4_checksum_23 : decode cX4_checksum 23 = .ok (.lload_n 1, 1) := by decide +kernel
theorem dX4_checksum_24 : decode cX4_checksum 24 = .ok (.lmul, 1) := by decide +kernel
theorem dX4_checksum_25 : decode cX4_checksum 25 = .ok (.aload_n 0, 1) := by decide +kernel
theorem dX4_checksum_26 : decode cX4_checksum 26 = .ok (.getfield 30, 3) := by decide +kernel
theorem dX4_checksum_29 : decode cX4_checksum 29 = .ok (.iload_n 3, 1) := by decide +kernel
theorem dX4_checksum_30 : decode cX4_checksum 30 = .ok (.baload, 1) := by decide +kernel
theorem dX4_checksum_31 : decode cX4_checksum 31 = .ok (.ifCond .eq 7, 3) := by decide +kernel
theorem dX4_checksum_34 : decode cX4_checksum 34 = .ok (.iconst 1, 1) := by decide +kernel
theorem dX4_checksum_35 : decode cX4_checksum 35 = .ok (.goto 4, 3) := by decide +kernel
theorem dX4_checksum_38 : decode cX4_checksum 38 = .ok (.iconst 0, 1) := by decide +kernel
theorem dX4_checksum_39 : decode cX4_checksum 39 = .ok (.i2l, 1) := by decide +kernel
theorem dX4_checksum_40 : decode cX4_checksum 40 = .ok (.ladd, 1) := by decide +kernel
theorem dX4_checksum_41 : decode cX4_checksum 41 = .ok (.ldc2_w 177, 3) := by decide +kernel
theorem dX4_checksum_44 : decode cX4_checksum 44 = .ok (.aload_n 0, 1) := by decide +kernel
theorem dX4_checksum_45 : decode cX4_checksum 45 = .ok (.getfield 33, 3) := by decide +kernel
theorem dX4_checksum_48 : decode cX4_checksum 48 = .ok (.iload_n 3, 1) := by decide +kernel
theorem dX4_checksum_49 : decode cX4_checksum 49 = .ok (.iaload, 1) := by decide +kernel
theorem dX4_checksum_50 : decode cX4_checksum 50 = .ok (.i2l, 1) := by decide +kernel
theorem dX4_checksum_51 : decode cX4_checksum 51 = .ok (.lmul, 1) := by decide +kernel
theorem dX4_checksum_52 : decode cX4_checksum 52 = .ok (.ladd, 1) := by decide +kernel
theorem dX4_checksum_53 : decode cX4_checksum 53 = .ok (.lstore_n 1, 1) := by decide +kernel
theorem dX4_checksum_54 : decode cX4_checksum 54 = .ok (.iinc 3 1, 3) := by decide +kernel
theorem dX4_checksum_57 : decode cX4_checksum 57 = .ok (.goto (-48), 3) := by decide +kernel
theorem dX4_checksum_60 : decode cX4_checksum 60 = .ok (.lload_n 1, 1) := by decide +kernel
theorem dX4_checksum_61 : decode cX4_checksum 61 = .ok (.lreturn, 1) := by decide +kernel
theorem dX4_shownShare_0 : decode cX4_shownShare 0 = .ok (.aload_n 0, 1) := by decide +kernel
theorem dX4_shownShare_1 : decode cX4_shownShare 1 = .ok (.iconst 0, 1) := by decide +kernel
theorem dX4_shownShare_2 : decode cX4_shownShare 2 = .ok (.putfield 64, 3) := by decide +kernel
theorem dX4_shownShare_5 : decode cX4_shownShare 5 = .ok (.aload_n 0, 1) := by decide +kernel
theorem dX4_shownShare_6 : decode cX4_shownShare 6 = .ok (.aload_n 0, 1) := by decide +kernel
theorem dX4_shownShare_7 : decode cX4_shownShare 7 = .ok (.getfield 67, 3) := by decide +kernel
theorem dX4_shownShare_10 : decode cX4_shownShare 10 = .ok (.ifCond .ne 7, 3) := by decide +kernel
theorem dX4_shownShare_13 : decode cX4_shownShare 13 = .ok (.iconst 1, 1) := by decide +kernel
theorem dX4_shownShare_14 : decode cX4_shownShare 14 = .ok (.goto 4, 3) := by decide +kernel
theorem dX4_shownShare_17 : decode cX4_shownShare 17 = .ok (.iconst 0, 1) := by decide +kernel
theorem dX4_shownShare_18 : decode cX4_shownShare 18 = .ok (.iconst 1, 1) := by decide +kernel
theorem dX4_shownShare_19 : decode cX4_shownShare 19 = .ok (.invokevirtual 84, 3) := by decide +kernel
theorem dX4_shownShare_22 : decode cX4_shownShare 22 = .ok (.ifCond .eq 5, 3) := by decide +kernel
theorem dX4_shownShare_25 : decode cX4_shownShare 25 = .ok (.fconst 0, 1) := by decide +kernel
theorem dX4_shownShare_26 : decode cX4_shownShare 26 = .ok (.freturn, 1) := by decide +kernel
theorem dX4_shownShare_27 : decode cX4_shownShare 27 = .ok (.iconst 0, 1) := by decide +kernel
theorem dX4_shownShare_28 : decode cX4_shownShare 28 = .ok (.istore_n 1, 1) := by decide +kernel
theorem dX4_shownShare_29 : decode cX4_shownShare 29 = .ok (.iconst 0, 1) := by decide +kernel
theorem dX4_shownShare_30 : decode cX4_shownShare 30 = .ok (.istore_n 2, 1) := by decide +kernel
theorem dX4_shownShare_31 : decode cX4_shownShare 31 = .ok (.iload_n 2, 1) := by decide +kernel
theorem dX4_shownShare_32 : decode cX4_shownShare 32 = .ok (.aload_n 0, 1) := by decide +kernel
theorem dX4_shownShare_33 : decode cX4_shownShare 33 = .ok (.getfield 67, 3) := by decide +kernel
theorem dX4_shownShare_36 : decode cX4_shownShare 36 = .ok (.if_icmp .ge 27, 3) := by decide +kernel
theorem dX4_shownShare_39 : decode cX4_shownShare 39 = .ok (.iload_n 1, 1) := by decide +kernel
theorem dX4_shownShare_40 : decode cX4_shownShare 40 = .ok (.aload_n 0, 1) := by decide +kernel
theorem dX4_shownShare_41 : decode cX4_shownShare 41 = .ok (.getfield 20, 3) := by decide +kernel
theorem dX4_shownShare_44 : decode cX4_shownShare 44 = .ok (.iload_n 2, 1) := by decide +kernel
theorem dX4_shownShare_45 : decode cX4_shownShare 45 = .ok (.iaload, 1) := by decide +kernel
theorem dX4_shownShare_46 : decode cX4_shownShare 46 = .ok (.iconst (-1), 1) := by decide +kernel
theorem dX4_shownShare_47 : decode cX4_shownShare 47 = .ok (.if_icmp .ne 7, 3) := by decide +kernel
theorem dX4_shownShare_50 : decode cX4_shownShare 50 = .ok (.iconst 0, 1) := by decide +kernel
theorem dX4_shownShare_51 : decode cX4_shownShare 51 = .ok (.goto 4, 3) := by decide +kernel
theorem dX4_shownShare_54 : decode cX4_shownShare 54 = .ok (.iconst 1, 1) := by decide +kernel
theorem dX4_shownShare_55 : decode cX4_shownShare 55 = .ok (.iadd, 1) := by decide +kernel
theorem dX4_shownShare_56 : decode cX4_shownShare 56 = .ok (.istore_n 1, 1) := by decide +kernel
theorem dX4_shownShare_57 : decode cX4_shownShare 57 = .ok (.iinc 2 1, 3) := by decide +kernel
theorem dX4_shownShare_60 : decode cX4_shownShare 60 = .ok (.goto (-29), 3) := by decide +kernel
theorem dX4_shownShare_63 : decode cX4_shownShare 63 = .ok (.iload_n 1, 1) := by decide +kernel
theorem dX4_shownShare_64 : decode cX4_shownShare 64 = .ok (.i2f, 1) := by decide +kernel
theorem dX4_shownShare_65 : decode cX4_shownShare 65 = .ok (.aload_n 0, 1) := by decide +kernel
theorem dX4_shownShare_66 : decode cX4_shownShare 66 = .ok (.getfield 67, 3) := by decide +kernel
theorem dX4_shownShare_69 : decode cX4_shownShare 69 = .ok (.i2f, 1) := by decide +kernel
theorem dX4_shownShare_70 : decode cX4_shownShare 70 = .ok (.fdiv, 1) := by decide +kernel
theorem dX4_shownShare_71 : decode cX4_shownShare 71 = .ok (.freturn, 1) := by decide +kernel
theorem dX4_meanWear_0 : decode cX4_meanWear 0 = .ok (.aload_n 0, 1) := by decide +kernel
theorem dX4_meanWear_1 : decode cX4_meanWear 1 = .ok (.iconst 0, 1) := by decide +kernel
theorem dX4_meanWear_2 : decode cX4_meanWear 2 = .ok (.putfield 64, 3) := by decide +kernel
theorem dX4_meanWear_5 : decode cX4_meanWear 5 = .ok (.aload_n 0, 1) := by decide +kernel
theorem dX4_meanWear_6 : decode cX4_meanWear 6 = .ok (.aload_n 0, 1) := by decide +kernel
theorem dX4_meanWear_7 : decode cX4_meanWear 7 = .ok (.getfield 67, 3) := by decide +kernel
theorem dX4_meanWear_10 : decode cX4_meanWear 10 = .ok (.ifCond .ne 7, 3) := by decide +kernel
theorem dX4_meanWear_13 : decode cX4_meanWear 13 = .ok (.iconst 1, 1) := by decide +kernel
theorem dX4_meanWear_14 : decode cX4_meanWear 14 = .ok (.goto 4, 3) := by decide +kernel
theorem dX4_meanWear_17 : decode cX4_meanWear 17 = .ok (.iconst 0, 1) := by decide +kernel
theorem dX4_meanWear_18 : decode cX4_meanWear 18 = .ok (.iconst 1, 1) := by decide +kernel
theorem dX4_meanWear_19 : decode cX4_meanWear 19 = .ok (.invokevirtual 84, 3) := by decide +kernel
theorem dX4_meanWear_22 : decode cX4_meanWear 22 = .ok (.ifCond .eq 5, 3) := by decide +kernel
theorem dX4_meanWear_25 : decode cX4_meanWear 25 = .ok (.dconst 0, 1) := by decide +kernel
theorem dX4_meanWear_26 : decode cX4_meanWear 26 = .ok (.dreturn, 1) := by decide +kernel
theorem dX4_meanWear_27 : decode cX4_meanWear 27 = .ok (.iconst 0, 1) := by decide +kernel
theorem dX4_meanWear_28 : decode cX4_meanWear 28 = .ok (.istore_n 1, 1) := by decide +kernel
theorem dX4_meanWear_29 : decode cX4_meanWear 29 = .ok (.iconst 0, 1) := by decide +kernel
theorem dX4_meanWear_30 : decode cX4_meanWear 30 = .ok (.istore_n 2, 1) := by decide +kernel
theorem dX4_meanWear_31 : decode cX4_meanWear 31 = .ok (.iload_n 2, 1) := by decide +kernel
theorem dX4_meanWear_32 : decode cX4_meanWear 32 = .ok (.bipush 32, 2) := by decide +kernel
theorem dX4_meanWear_34 : decode cX4_meanWear 34 = .ok (.aload_n 0, 1) := by decide +kernel
theorem dX4_meanWear_35 : decode cX4_meanWear 35 = .ok (.getfield 67, 3) := by decide +kernel
theorem dX4_meanWear_38 : decode cX4_meanWear 38 = .ok (.imul, 1) := by decide +kernel
theorem dX4_meanWear_39 : decode cX4_meanWear 39 = .ok (.if_icmp .ge 18, 3) := by decide +kernel
theorem dX4_meanWear_42 : decode cX4_meanWear 42 = .ok (.iload_n 1, 1) := by decide +kernel
theorem dX4_meanWear_43 : decode cX4_meanWear 43 = .ok (.aload_n 0, 1) := by decide +kernel
theorem dX4_meanWear_44 : decode cX4_meanWear 44 = .ok (.getfield 33, 3) := by decide +kernel
theorem dX4_meanWear_47 : decode cX4_meanWear 47 = .ok (.iload_n 2, 1) := by decide +kernel
theorem dX4_meanWear_48 : decode cX4_meanWear 48 = .ok (.iaload, 1) := by decide +kernel
theorem dX4_meanWear_49 : decode cX4_meanWear 49 = .ok (.iadd, 1) := by decide +kernel
theorem dX4_meanWear_50 : decode cX4_meanWear 50 = .ok (.istore_n 1, 1) := by decide +kernel
theorem dX4_meanWear_51 : decode cX4_meanWear 51 = .ok (.iinc 2 1, 3) := by decide +kernel
theorem dX4_meanWear_54 : decode cX4_meanWear 54 = .ok (.goto (-23), 3) := by decide +kernel
theorem dX4_meanWear_57 : decode cX4_meanWear 57 = .ok (.iload_n 1, 1) := by decide +kernel
theorem dX4_meanWear_58 : decode cX4_meanWear 58 = .ok (.i2d, 1) := by decide +kernel
theorem dX4_meanWear_59 : decode cX4_meanWear 59 = .ok (.bipush 32, 2) := by decide +kernel
theorem dX4_meanWear_61 : decode cX4_meanWear 61 = .ok (.aload_n 0, 1) := by decide +kernel
theorem dX4_meanWear_62 : decode cX4_meanWear 62 = .ok (.getfield 67, 3) := by decide +kernel
theorem dX4_meanWear_65 : decode cX4_meanWear 65 = .ok (.imul, 1) := by decide +kernel
theorem dX4_meanWear_66 : decode cX4_meanWear 66 = .ok (.i2d, 1) := by decide +kernel
theorem dX4_meanWear_67 : decode cX4_meanWear 67 = .ok (.ddiv, 1) := by decide +kernel
theorem dX4_meanWear_68 : decode cX4_meanWear 68 = .ok (.dreturn, 1) := by decide +kernel
theorem dX4_isSound_0 : decode cX4_isSound 0 = .ok (.aload_n 0, 1) := by decide +kernel
theorem dX4_isSound_1 : decode cX4_isSound 1 = .ok (.iconst 0, 1) := by decide +kernel
theorem dX4_isSound_2 : decode cX4_isSound 2 = .ok (.putfield 64, 3) := by decide +kernel
theorem dX4_isSound_5 : decode cX4_isSound 5 = .ok (.iconst 1, 1) := by decide +kernel
theorem dX4_isSound_6 : decode cX4_isSound 6 = .ok (.ireturn, 1) := by decide +kernel
theorem dJx00060_init_a7421_0 : decode cJx00060_init_a7421 0 = .ok (.aload_n 0, 1) := by decide +kernel
theorem dJx00060_init_a7421_1 : decode cJx00060_init_a7421 1 = .ok (.aload_n 1, 1) := by decide +kernel
theorem dJx00060_init_a7421_2 : decode cJx00060_init_a7421 2 = .ok (.invokespecial 7, 3) := by decide +kernel
theorem dJx00060_init_a7421_5 : decode cJx00060_init_a7421 5 = .ok (.return_, 1) := by decide +kernel
theorem dJ6_bitCount_0f7a4_0 : decode cJ6_bitCount_0f7a4 0 = .ok (.iload_n 0, 1) := by decide +kernel
theorem dJ6_bitCount_0f7a4_1 : decode cJ6_bitCount_0f7a4 1 = .ok (.iload_n 0, 1) := by decide +kernel
theorem dJ6_bitCount_0f7a4_2 : decode cJ6_bitCount_0f7a4 2 = .ok (.iconst 1, 1) := by decide +kernel
theorem dJ6_bitCount_0f7a4_3 : decode cJ6_bitCount_0f7a4 3 = .ok (.iushr, 1) := by decide +kernel
theorem dJ6_bitCount_0f7a4_4 : decode cJ6_bitCount_0f7a4 4 = .ok (.ldc_w 265, 3) := by decide +kernel
theorem dJ6_bitCount_0f7a4_7 : decode cJ6_bitCount_0f7a4 7 = .ok (.iand, 1) := by decide +kernel
theorem dJ6_bitCount_0f7a4_8 : decode cJ6_bitCount_0f7a4 8 = .ok (.isub, 1) := by decide +kernel
theorem dJ6_bitCount_0f7a4_9 : decode cJ6_bitCount_0f7a4 9 = .ok (.istore_n 0, 1) := by decide +kernel
theorem dJ6_bitCount_0f7a4_10 : decode cJ6_bitCount_0f7a4 10 = .ok (.iload_n 0, 1) := by decide +kernel
theorem dJ6_bitCount_0f7a4_11 : decode cJ6_bitCount_0f7a4 11 = .ok (.ldc_w 266, 3) := by decide +kernel
theorem dJ6_bitCount_0f7a4_14 : decode cJ6_bitCount_0f7a4 14 = .ok (.iand, 1) := by decide +kernel
theorem dJ6_bitCount_0f7a4_15 : decode cJ6_bitCount_0f7a4 15 = .ok (.iload_n 0, 1) := by decide +kernel
theorem dJ6_bitCount_0f7a4_16 : decode cJ6_bitCount_0f7a4 16 = .ok (.iconst 2, 1) := by decide +kernel
theorem dJ6_bitCount_0f7a4_17 : decode cJ6_bitCount_0f7a4 17 = .ok (.iushr, 1) := by decide +kernel
theorem dJ6_bitCount_0f7a4_18 : decode cJ6_bitCount_0f7a4 18 = .ok (.ldc_w 266, 3) := by decide +kernel
theorem dJ6_bitCount_0f7a4_21 : decode cJ6_bitCount_0f7a4 21 = .ok (.iand, 1) := by decide +kernel
theorem dJ6_bitCount_0f7a4_22 : decode cJ6_bitCount_0f7a4 22 = .ok (.iadd, 1) := by decide +kernel
theorem dJ6_bitCount_0f7a4_23 : decode cJ6_bitCount_0f7a4 23 = .ok (.istore_n 0, 1) := by decide +kernel
theorem dJ6_bitCount_0f7a4_24 : decode cJ6_bitCount_0f7a4 24 = .ok (.iload_n 0, 1) := by decide +kernel
theorem dJ6_bitCount_0f7a4_25 : decode cJ6_bitCount_0f7a4 25 = .ok (.iload_n 0, 1) := by decide +kernel
theorem dJ6_bitCount_0f7a4_26 : decode cJ6_bitCount_0f7a4 26 = .ok (.iconst 4, 1) := by decide +kernel
theorem dJ6_bitCount_0f7a4_27 : decode cJ6_bitCount_0f7a4 27 = .ok (.iushr, 1) := by decide +kernel
theorem dJ6_bitCount_0f7a4_28 : decode cJ6_bitCount_0f7a4 28 = .ok (.iadd, 1) := by decide +kernel
theorem dJ6_bitCount_0f7a4_29 : decode cJ6_bitCount_0f7a4 29 = .ok (.ldc_w 267, 3) := by decide +kernel
theorem dJ6_bitCount_0f7a4_32 : decode cJ6_bitCount_0f7a4 32 = .ok (.iand, 1) := by decide +kernel
theorem dJ6_bitCount_0f7a4_33 : decode cJ6_bitCount_0f7a4 33 = .ok (.istore_n 0, 1) := by decide +kernel
theorem dJ6_bitCount_0f7a4_34 : decode cJ6_bitCount_0f7a4 34 = .ok (.iload_n 0, 1) := by decide +kernel
theorem dJ6_bitCount_0f7a4_35 : decode cJ6_bitCount_0f7a4 35 = .ok (.iload_n 0, 1) := by decide +kernel
theorem dJ6_bitCount_0f7a4_36 : decode cJ6_bitCount_0f7a4 36 = .ok (.bipush 8, 2) := by decide +kernel
theorem dJ6_bitCount_0f7a4_38 : decode cJ6_bitCount_0f7a4 38 = .ok (.iushr, 1) := by decide +kernel
theorem dJ6_bitCount_0f7a4_39 : decode cJ6_bitCount_0f7a4 39 = .ok (.iadd, 1) := by decide +kernel
theorem dJ6_bitCount_0f7a4_40 : decode cJ6_bitCount_0f7a4 40 = .ok (.istore_n 0, 1) := by decide +kernel
theorem dJ6_bitCount_0f7a4_41 : decode cJ6_bitCount_0f7a4 41 = .ok (.iload_n 0, 1) := by decide +kernel
theorem dJ6_bitCount_0f7a4_42 : decode cJ6_bitCount_0f7a4 42 = .ok (.iload_n 0, 1) := by decide +kernel
theorem dJ6_bitCount_0f7a4_43 : decode cJ6_bitCount_0f7a4 43 = .ok (.bipush 16, 2) := by decide +kernel
theorem dJ6_bitCount_0f7a4_45 : decode cJ6_bitCount_0f7a4 45 = .ok (.iushr, 1) := by decide +kernel
theorem dJ6_bitCount_0f7a4_46 : decode cJ6_bitCount_0f7a4 46 = .ok (.iadd, 1) := by decide +kernel
theorem dJ6_bitCount_0f7a4_47 : decode cJ6_bitCount_0f7a4 47 = .ok (.istore_n 0, 1) := by decide +kernel
theorem dJ6_bitCount_0f7a4_48 : decode cJ6_bitCount_0f7a4 48 = .ok (.iload_n 0, 1) := by decide +kernel
theorem dJ6_bitCount_0f7a4_49 : decode cJ6_bitCount_0f7a4 49 = .ok (.bipush 63, 2) := by decide +kernel
theorem dJ6_bitCount_0f7a4_51 : decode cJ6_bitCount_0f7a4 51 = .ok (.iand, 1) := by decide +kernel
theorem dJ6_bitCount_0f7a4_52 : decode cJ6_bitCount_0f7a4 52 = .ok (.ireturn, 1) := by decide +kernel
theorem dJ9_max_7cf53_0 : decode cJ9_max_7cf53 0 = .ok (.iload_n 0, 1) := by decide +kernel
theorem dJ9_max_7cf53_1 : decode cJ9_max_7cf53 1 = .ok (.iload_n 1, 1) := by decide +kernel
theorem dJ9_max_7cf53_2 : decode cJ9_max_7cf53 2 = .ok (.if_icmp .lt 7, 3) := by decide +kernel
theorem dJ9_max_7cf53_5 : decode cJ9_max_7cf53 5 = .ok (.iload_n 0, 1) := by decide +kernel
theorem dJ9_max_7cf53_6 : decode cJ9_max_7cf53 6 = .ok (.goto 4, 3) := by decide +kernel
theorem dJ9_max_7cf53_9 : decode cJ9_max_7cf53 9 = .ok (.iload_n 1, 1) := by decide +kernel
theorem dJ9_max_7cf53_10 : decode cJ9_max_7cf53 10 = .ok (.ireturn, 1) := by decide +kernel
theorem dJ9_min_7cf53_0 : decode cJ9_min_7cf53 0 = .ok (.iload_n 0, 1) := by decide +kernel
theorem dJ9_min_7cf53_1 : decode cJ9_min_7cf53 1 = .ok (.iload_n 1, 1) := by decide +kernel
theorem dJ9_min_7cf53_2 : decode cJ9_min_7cf53 2 = .ok (.if_icmp .gt 7, 3) := by decide +kernel
theorem dJ9_min_7cf53_5 : decode cJ9_min_7cf53 5 = .ok (.iload_n 0, 1) := by decide +kernel
theorem dJ9_min_7cf53_6 : decode cJ9_min_7cf53 6 = .ok (.goto 4, 3) := by decide +kernel
theorem dJ9_min_7cf53_9 : decode cJ9_min_7cf53 9 = .ok (.iload_n 1, 1) := by decide +kernel
theorem dJ9_min_7cf53_10 : decode cJ9_min_7cf53 10 = .ok (.ireturn, 1) := by decide +kernel
theorem dL_addBoard_0 : decode cL_addBoard 0 = .ok (.aload_n 3, 1) := by decide +kernel
theorem dL_addBoard_1 : decode cL_addBoard 1 = .ok (.iconst 0, 1) := by decide +kernel
theorem dL_addBoard_2 : decode cL_addBoard 2 = .ok (.aload_n 0, 1) := by decide +kernel
theorem dL_addBoard_3 : decode cL_addBoard 3 = .ok (.iload_n 1, 1) := by decide +kernel
theorem dL_addBoard_4 : decode cL_addBoard 4 = .ok (.iload_n 2, 1) := by decide +kernel
theorem dL_addBoard_5 : decode cL_addBoard 5 = .ok (.invokevirtual 7, 3) := by decide +kernel
theorem dL_addBoard_8 : decode cL_addBoard 8 = .ok (.i2l, 1) := by decide +kernel
theorem dL_addBoard_9 : decode cL_addBoard 9 = .ok (.lastore, 1) := by decide +kernel
theorem dL_addBoard_10 : decode cL_addBoard 10 = .ok (.goto 11, 3) := by decide +kernel
theorem dL_addBoard_13 : decode cL_addBoard 13 = .ok (.astore 4, 2) := by decide +kernel
theorem dL_addBoard_15 : decode cL_addBoard 15 = .ok (.iconst 1, 1) := by decide +kernel
theorem dL_addBoard_16 : decode cL_addBoard 16 = .ok (.ireturn, 1) := by decide +kernel
theorem dL_addBoard_17 : decode cL_addBoard 17 = .ok (.astore 4, 2) := by decide +kernel
theorem dL_addBoard_19 : decode cL_addBoard 19 = .ok (.iconst 2, 1) := by decide +kernel
theorem dL_addBoard_20 : decode cL_addBoard 20 = .ok (.ireturn, 1) := by decide +kernel
theorem dL_addBoard_21 : decode cL_addBoard 21 = .ok (.iconst 0, 1) := by decide +kernel
theorem dL_addBoard_22 : decode cL_addBoard 22 = .ok (.ireturn, 1) := by decide +kernel
theorem dL_setSun_0 : decode cL_setSun 0 = .ok (.aload_n 2, 1) := by decide +kernel
theorem dL_setSun_1 : decode cL_setSun 1 = .ok (.iconst 0, 1) := by decide +kernel
theorem dL_setSun_2 : decode cL_setSun 2 = .ok (.aload_n 0, 1) := by decide +kernel
theorem dL_setSun_3 : decode cL_setSun 3 = .ok (.iload_n 1, 1) := by decide +kernel
theorem dL_setSun_4 : decode cL_setSun 4 = .ok (.invokevirtual 17, 3) := by decide +kernel
theorem dL_setSun_7 : decode cL_setSun 7 = .ok (.i2l, 1) := by decide +kernel
theorem dL_setSun_8 : decode cL_setSun 8 = .ok (.lastore, 1) := by decide +kernel
theorem dL_setSun_9 : decode cL_setSun 9 = .ok (.goto 6, 3) := by decide +kernel
theorem dL_setSun_12 : decode cL_setSun 12 = .ok (.astore_n 3, 1) := by decide +kernel
theorem dL_setSun_13 : decode cL_setSun 13 = .ok (.iconst 1, 1) := by decide +kernel
theorem dL_setSun_14 : decode cL_setSun 14 = .ok (.ireturn, 1) := by decide +kernel
theorem dL_setSun_15 : decode cL_setSun 15 = .ok (.iconst 0, 1) := by decide +kernel
theorem dL_setSun_16 : decode cL_setSun 16 = .ok (.ireturn, 1) := by decide +kernel
theorem dL_charge_0 : decode cL_charge 0 = .ok (.aload_n 2, 1) := by decide +kernel
theorem dL_charge_1 : decode cL_charge 1 = .ok (.iconst 0, 1) := by decide +kernel
theorem dL_charge_2 : decode cL_charge 2 = .ok (.aload_n 0, 1) := by decide +kernel
theorem dL_charge_3 : decode cL_charge 3 = .ok (.iload_n 1, 1) := by decide +kernel
theorem dL_charge_4 : decode cL_charge 4 = .ok (.invokevirtual 21, 3) := by decide +kernel
theorem dL_charge_7 : decode cL_charge 7 = .ok (.i2l, 1) := by decide +kernel
theorem dL_charge_8 : decode cL_charge 8 = .ok (.lastore, 1) := by decide +kernel
theorem dL_charge_9 : decode cL_charge 9 = .ok (.goto 6, 3) := by decide +kernel
theorem dL_charge_12 : decode cL_charge 12 = .ok (.astore_n 3, 1) := by decide +kernel
theorem dL_charge_13 : decode cL_charge 13 = .ok (.iconst 1, 1) := by decide +kernel
theorem dL_charge_14 : decode cL_charge 14 = .ok (.ireturn, 1) := by decide +kernel
theorem dL_charge_15 : decode cL_charge 15 = .ok (.iconst 0, 1) := by decide +kernel
theorem dL_charge_16 : decode cL_charge 16 = .ok (.ireturn, 1) := by decide +kernel
theorem dL_cell_0 : decode cL_cell 0 = .ok (.aload 4, 2) := by decide +kernel
theorem dL_cell_2 : decode cL_cell 2 = .ok (.iconst 0, 1) := by decide +kernel
theorem dL_cell_3 : decode cL_cell 3 = .ok (.aload_n 0, 1) := by decide +kernel
theorem dL_cell_4 : decode cL_cell 4 = .ok (.iload_n 1, 1) := by decide +kernel
theorem dL_cell_5 : decode cL_cell 5 = .ok (.iload_n 2, 1) := by decide +kernel
theorem dL_cell_6 : decode cL_cell 6 = .ok (.iload_n 3, 1) := by decide +kernel
theorem dL_cell_7 : decode cL_cell 7 = .ok (.invokevirtual 26, 3) := by decide +kernel
theorem dL_cell_10 : decode cL_cell 10 = .ok (.i2l, 1) := by decide +kernel
theorem dL_cell_11 : decode cL_cell 11 = .ok (.lastore, 1) := by decide +kernel
theorem dL_cell_12 : decode cL_cell 12 = .ok (.goto 7, 3) := by decide +kernel
theorem dL_cell_15 : decode cL_cell 15 = .ok (.astore 5, 2) := by decide +kernel
theorem dL_cell_17 : decode cL_cell 17 = .ok (.iconst 1, 1) := by decide +kernel
theorem dL_cell_18 : decode cL_cell 18 = .ok (.ireturn, 1) := by decide +kernel
theorem dL_cell_19 : decode cL_cell 19 = .ok (.iconst 0, 1) := by decide +kernel
theorem dL_cell_20 : decode cL_cell 20 = .ok (.ireturn, 1) := by decide +kernel
theorem dL_wear_0 : decode cL_wear 0 = .ok (.aload 4, 2) := by decide +kernel
theorem dL_wear_2 : decode cL_wear 2 = .ok (.iconst 0, 1) := by decide +kernel
theorem dL_wear_3 : decode cL_wear 3 = .ok (.aload_n 0, 1) := by decide +kernel
theorem dL_wear_4 : decode cL_wear 4 = .ok (.iload_n 1, 1) := by decide +kernel
theorem dL_wear_5 : decode cL_wear 5 = .ok (.iload_n 2, 1) := by decide +kernel
theorem dL_wear_6 : decode cL_wear 6 = .ok (.iload_n 3, 1) := by decide +kernel
theorem dL_wear_7 : decode cL_wear 7 = .ok (.invokevirtual 30, 3) := by decide +kernel
theorem dL_wear_10 : decode cL_wear 10 = .ok (.i2l, 1) := by decide +kernel
theorem dL_wear_11 : decode cL_wear 11 = .ok (.lastore, 1) := by decide +kernel
theorem dL_wear_12 : decode cL_wear 12 = .ok (.goto 7, 3) := by decide +kernel
theorem dL_wear_15 : decode cL_wear 15 = .ok (.astore 5, 2) := by decide +kernel
theorem dL_wear_17 : decode cL_wear 17 = .ok (.iconst 1, 1) := by decide +kernel
theorem dL_wear_18 : decode cL_wear 18 = .ok (.ireturn, 1) := by decide +kernel
theorem dL_wear_19 : decode cL_wear 19 = .ok (.iconst 0, 1) := by decide +kernel
theorem dL_wear_20 : decode cL_wear 20 = .ok (.ireturn, 1) := by decide +kernel
theorem dL_shows_0 : decode cL_shows 0 = .ok (.aload_n 2, 1) := by decide +kernel
theorem dL_shows_1 : decode cL_shows 1 = .ok (.iconst 0, 1) := by decide +kernel
theorem dL_shows_2 : decode cL_shows 2 = .ok (.aload_n 0, 1) := by decide +kernel
theorem dL_shows_3 : decode cL_shows 3 = .ok (.iload_n 1, 1) := by decide +kernel
theorem dL_shows_4 : decode cL_shows 4 = .ok (.invokevirtual 33, 3) := by decide +kernel
theorem dL_shows_7 : decode cL_shows 7 = .ok (.i2l, 1) := by decide +kernel
theorem dL_shows_8 : decode cL_shows 8 = .ok (.lastore, 1) := by decide +kernel
theorem dL_shows_9 : decode cL_shows 9 = .ok (.goto 6, 3) := by decide +kernel
theorem dL_shows_12 : decode cL_shows 12 = .ok (.astore_n 3, 1) := by decide +kernel
theorem dL_shows_13 : decode cL_shows 13 = .ok (.iconst 1, 1) := by decide +kernel
theorem dL_shows_14 : decode cL_shows 14 = .ok (.ireturn, 1) := by decide +kernel
theorem dL_shows_15 : decode cL_shows 15 = .ok (.iconst 0, 1) := by decide +kernel
theorem dL_shows_16 : decode cL_shows 16 = .ok (.ireturn, 1) := by decide +kernel
theorem dL_shift_0 : decode cL_shift 0 = .ok (.aload_n 2, 1) := by decide +kernel
theorem dL_shift_1 : decode cL_shift 1 = .ok (.iconst 0, 1) := by decide +kernel
theorem dL_shift_2 : decode cL_shift 2 = .ok (.aload_n 0, 1) := by decide +kernel
theorem dL_shift_3 : decode cL_shift 3 = .ok (.iload_n 1, 1) := by decide +kernel
theorem dL_shift_4 : decode cL_shift 4 = .ok (.invokevirtual 36, 3) := by decide +kernel
theorem dL_shift_7 : decode cL_shift 7 = .ok (.i2l, 1) := by decide +kernel
theorem dL_shift_8 : decode cL_shift 8 = .ok (.lastore, 1) := by decide +kernel
theorem dL_shift_9 : decode cL_shift 9 = .ok (.goto 6, 3) := by decide +kernel
theorem dL_shift_12 : decode cL_shift 12 = .ok (.astore_n 3, 1) := by decide +kernel
theorem dL_shift_13 : decode cL_shift 13 = .ok (.iconst 1, 1) := by decide +kernel
theorem dL_shift_14 : decode cL_shift 14 = .ok (.ireturn, 1) := by decide +kernel
theorem dL_shift_15 : decode cL_shift 15 = .ok (.iconst 0, 1) := by decide +kernel
theorem dL_shift_16 : decode cL_shift 16 = .ok (.ireturn, 1) := by decide +kernel
theorem dL_sleeps_0 : decode cL_sleeps 0 = .ok (.aload_n 2, 1) := by decide +kernel
theorem dL_sleeps_1 : decode cL_sleeps 1 = .ok (.iconst 0, 1) := by decide +kernel
theorem dL_sleeps_2 : decode cL_sleeps 2 = .ok (.aload_n 0, 1) := by decide +kernel
theorem dL_sleeps_3 : decode cL_sleeps 3 = .ok (.iload_n 1, 1) := by decide +kernel
theorem dL_sleeps_4 : decode cL_sleeps 4 = .ok (.invokevirtual 39, 3) := by decide +kernel
theorem dL_sleeps_7 : decode cL_sleeps 7 = .ok (.ifCond .eq 7, 3) := by decide +kernel
theorem dL_sleeps_10 : decode cL_sleeps 10 = .ok (.lconst 1, 1) := by decide +kernel
theorem dL_sleeps_11 : decode cL_sleeps 11 = .ok (.goto 4, 3) := by decide +kernel
theorem dL_sleeps_14 : decode cL_sleeps 14 = .ok (.lconst 0, 1) := by decide +kernel
theorem dL_sleeps_15 : decode cL_sleeps 15 = .ok (.lastore, 1) := by decide +kernel
theorem dL_sleeps_16 : decode cL_sleeps 16 = .ok (.goto 6, 3) := by decide +kernel
theorem dL_sleeps_19 : decode cL_sleeps 19 = .ok (.astore_n 3, 1) := by decide +kernel
theorem dL_sleeps_20 : decode cL_sleeps 20 = .ok (.iconst 1, 1) := by decide +kernel
theorem dL_sleeps_21 : decode cL_sleeps 21 = .ok (.ireturn, 1) := by decide +kernel
theorem dL_sleeps_22 : decode cL_sleeps 22 = .ok (.iconst 0, 1) := by decide +kernel
theorem dL_sleeps_23 : decode cL_sleeps 23 = .ok (.ireturn, 1) := by decide +kernel
theorem dL_post_0 : decode cL_post 0 = .ok (.aload 5, 2) := by decide +kernel
theorem dL_post_2 : decode cL_post 2 = .ok (.iconst 0, 1) := by decide +kernel
theorem dL_post_3 : decode cL_post 3 = .ok (.aload_n 0, 1) := by decide +kernel
theorem dL_post_4 : decode cL_post 4 = .ok (.iload_n 1, 1) := by decide +kernel
theorem dL_post_5 : decode cL_post 5 = .ok (.iload_n 2, 1) := by decide +kernel
theorem dL_post_6 : decode cL_post 6 = .ok (.iload_n 3, 1) := by decide +kernel
theorem dL_post_7 : decode cL_post 7 = .ok (.iload 4, 2) := by decide +kernel
theorem dL_post_9 : decode cL_post 9 = .ok (.invokevirtual 43, 3) := by decide +kernel
theorem dL_post_12 : decode cL_post 12 = .ok (.i2l, 1) := by decide +kernel
theorem dL_post_13 : decode cL_post 13 = .ok (.lastore, 1) := by decide +kernel
theorem dL_post_14 : decode cL_post 14 = .ok (.goto 11, 3) := by decide +kernel
theorem dL_post_17 : decode cL_post 17 = .ok (.astore 6, 2) := by decide +kernel
theorem dL_post_19 : decode cL_post 19 = .ok (.iconst 1, 1) := by decide +kernel
theorem dL_post_20 : decode cL_post 20 = .ok (.ireturn, 1) := by decide +kernel
theorem dL_post_21 : decode cL_post 21 = .ok (.astore 6, 2) := by decide +kernel
theorem dL_post_23 : decode cL_post 23 = .ok (.iconst 2, 1) := by decide +kernel
theorem dL_post_24 : decode cL_post 24 = .ok (.ireturn, 1) := by decide +kernel
theorem dL_post_25 : decode cL_post 25 = .ok (.iconst 0, 1) := by decide +kernel
theorem dL_post_26 : decode cL_post 26 = .ok (.ireturn, 1) := by decide +kernel
theorem dL_queue_0 : decode cL_queue 0 = .ok (.aload_n 3, 1) := by decide +kernel
theorem dL_queue_1 : decode cL_queue 1 = .ok (.iconst 0, 1) := by decide +kernel
theorem dL_queue_2 : decode cL_queue 2 = .ok (.aload_n 0, 1) := by decide +kernel
theorem dL_queue_3 : decode cL_queue 3 = .ok (.iload_n 1, 1) := by decide +kernel
theorem dL_queue_4 : decode cL_queue 4 = .ok (.iload_n 2, 1) := by decide +kernel
theorem dL_queue_5 : decode cL_queue 5 = .ok (.invokevirtual 47, 3) := by decide +kernel
theorem dL_queue_8 : decode cL_queue 8 = .ok (.ifCond .eq 7, 3) := by decide +kernel
theorem dL_queue_11 : decode cL_queue 11 = .ok (.lconst 1, 1) := by decide +kernel
theorem dL_queue_12 : decode cL_queue 12 = .ok (.goto 4, 3) := by decide +kernel
theorem dL_queue_15 : decode cL_queue 15 = .ok (.lconst 0, 1) := by decide +kernel
theorem dL_queue_16 : decode cL_queue 16 = .ok (.lastore, 1) := by decide +kernel
theorem dL_queue_17 : decode cL_queue 17 = .ok (.goto 15, 3) := by decide +kernel
theorem dL_queue_20 : decode cL_queue 20 = .ok (.astore 4, 2) := by decide +kernel
theorem dL_queue_22 : decode cL_queue 22 = .ok (.iconst 1, 1) := by decide +kernel
theorem dL_queue_23 : decode cL_queue 23 = .ok (.ireturn, 1) := by decide +kernel
theorem dL_queue_24 : decode cL_queue 24 = .ok (.astore 4, 2) := by decide +kernel
theorem dL_queue_26 : decode cL_queue 26 = .ok (.iconst 2, 1) := by decide +kernel
theorem dL_queue_27 : decode cL_queue 27 = .ok (.ireturn, 1) := by decide +kernel
theorem dL_queue_28 : decode cL_queue 28 = .ok (.astore 4, 2) := by decide +kernel
theorem dL_queue_30 : decode cL_queue 30 = .ok (.iconst 3, 1) := by decide +kernel
theorem dL_queue_31 : decode cL_queue 31 = .ok (.ireturn, 1) := by decide +kernel
theorem dL_queue_32 : decode cL_queue 32 = .ok (.iconst 0, 1) := by decide +kernel
theorem dL_queue_33 : decode cL_queue 33 = .ok (.ireturn, 1) := by decide +kernel
theorem dL_takeBack_0 : decode cL_takeBack 0 = .ok (.aload_n 3, 1) := by decide +kernel
theorem dL_takeBack_1 : decode cL_takeBack 1 = .ok (.iconst 0, 1) := by decide +kernel
theorem dL_takeBack_2 : decode cL_takeBack 2 = .ok (.aload_n 0, 1) := by decide +kernel
theorem dL_takeBack_3 : decode cL_takeBack 3 = .ok (.iload_n 1, 1) := by decide +kernel
theorem dL_takeBack_4 : decode cL_takeBack 4 = .ok (.iload_n 2, 1) := by decide +kernel
theorem dL_takeBack_5 : decode cL_takeBack 5 = .ok (.invokevirtual 53, 3) := by decide +kernel
theorem dL_takeBack_8 : decode cL_takeBack 8 = .ok (.i2l, 1) := by decide +kernel
theorem dL_takeBack_9 : decode cL_takeBack 9 = .ok (.lastore, 1) := by decide +kernel
theorem dL_takeBack_10 : decode cL_takeBack 10 = .ok (.goto 15, 3) := by decide +kernel
theorem dL_takeBack_13 : decode cL_takeBack 13 = .ok (.astore 4, 2) := by decide +kernel
theorem dL_takeBack_15 : decode cL_takeBack 15 = .ok (.iconst 1, 1) := by decide +kernel
theorem dL_takeBack_16 : decode cL_takeBack 16 = .ok (.ireturn, 1) := by decide +kernel
theorem dL_takeBack_17 : decode cL_takeBack 17 = .ok (.astore 4, 2) := by decide +kernel
theorem dL_takeBack_19 : decode cL_takeBack 19 = .ok (.iconst 2, 1) := by decide +kernel
theorem dL_takeBack_20 : decode cL_takeBack 20 = .ok (.ireturn, 1) := by decide +kernel
theorem dL_takeBack_21 : decode cL_takeBack 21 = .ok (.astore 4, 2) := by decide +kernel
theorem dL_takeBack_23 : decode cL_takeBack 23 = .ok (.iconst 3, 1) := by decide +kernel
theorem dL_takeBack_24 : decode cL_takeBack 24 = .ok (.ireturn, 1) := by decide +kernel
theorem dL_takeBack_25 : decode cL_takeBack 25 = .ok (.iconst 0, 1) := by decide +kernel
theorem dL_takeBack_26 : decode cL_takeBack 26 = .ok (.ireturn, 1) := by decide +kernel
theorem dL_mend_0 : decode cL_mend 0 = .ok (.aload_n 3, 1) := by decide +kernel
theorem dL_mend_1 : decode cL_mend 1 = .ok (.iconst 0, 1) := by decide +kernel
theorem dL_mend_2 : decode cL_mend 2 = .ok (.aload_n 0, 1) := by decide +kernel
theorem dL_mend_3 : decode cL_mend 3 = .ok (.iload_n 1, 1) := by decide +kernel
theorem dL_mend_4 : decode cL_mend 4 = .ok (.iload_n 2, 1) := by decide +kernel
theorem dL_mend_5 : decode cL_mend 5 = .ok (.invokevirtual 56, 3) := by decide +kernel
theorem dL_mend_8 : decode cL_mend 8 = .ok (.i2l, 1) := by decide +kernel
theorem dL_mend_9 : decode cL_mend 9 = .ok (.lastore, 1) := by decide +kernel
theorem dL_mend_10 : decode cL_mend 10 = .ok (.goto 19, 3) := by decide +kernel
theorem dL_mend_13 : decode cL_mend 13 = .ok (.astore 4, 2) := by decide +kernel
theorem dL_mend_15 : decode cL_mend 15 = .ok (.iconst 1, 1) := by decide +kernel
theorem dL_mend_16 : decode cL_mend 16 = .ok (.ireturn, 1) := by decide +kernel
theorem dL_mend_17 : decode cL_mend 17 = .ok (.astore 4, 2) := by decide +kernel
theorem dL_mend_19 : decode cL_mend 19 = .ok (.iconst 2, 1) := by decide +kernel
theorem dL_mend_20 : decode cL_mend 20 = .ok (.ireturn, 1) := by decide +kernel
theorem dL_mend_21 : decode cL_mend 21 = .ok (.astore 4, 2) := by decide +kernel
theorem dL_mend_23 : decode cL_mend 23 = .ok (.iconst 3, 1) := by decide +kernel
theorem dL_mend_24 : decode cL_mend 24 = .ok (.ireturn, 1) := by decide +kernel
theorem dL_mend_25 : decode cL_mend 25 = .ok (.astore 4, 2) := by decide +kernel
theorem dL_mend_27 : decode cL_mend 27 = .ok (.iconst 4, 1) := by decide +kernel
theorem dL_mend_28 : decode cL_mend 28 = .ok (.ireturn, 1) := by decide +kernel
theorem dL_mend_29 : decode cL_mend 29 = .ok (.iconst 0, 1) := by decide +kernel
theorem dL_mend_30 : decode cL_mend 30 = .ok (.ireturn, 1) := by decide +kernel
theorem dL_deny_0 : decode cL_deny 0 = .ok (.aload 4, 2) := by decide +kernel
theorem dL_deny_2 : decode cL_deny 2 = .ok (.iconst 0, 1) := by decide +kernel
theorem dL_deny_3 : decode cL_deny 3 = .ok (.aload_n 0, 1) := by decide +kernel
theorem dL_deny_4 : decode cL_deny 4 = .ok (.iload_n 1, 1) := by decide +kernel
theorem dL_deny_5 : decode cL_deny 5 = .ok (.iload_n 2, 1) := by decide +kernel
theorem dL_deny_6 : decode cL_deny 6 = .ok (.iload_n 3, 1) := by decide +kernel
theorem dL_deny_7 : decode cL_deny 7 = .ok (.invokevirtual 59, 3) := by decide +kernel
theorem dL_deny_10 : decode cL_deny 10 = .ok (.i2l, 1) := by decide +kernel
theorem dL_deny_11 : decode cL_deny 11 = .ok (.lastore, 1) := by decide +kernel
theorem dL_deny_12 : decode cL_deny 12 = .ok (.goto 11, 3) := by decide +kernel
theorem dL_deny_15 : decode cL_deny 15 = .ok (.astore 5, 2) := by decide +kernel
theorem dL_deny_17 : decode cL_deny 17 = .ok (.iconst 1, 1) := by decide +kernel
theorem dL_deny_18 : decode cL_deny 18 = .ok (.ireturn, 1) := by decide +kernel
theorem dL_deny_19 : decode cL_deny 19 = .ok (.astore 5, 2) := by decide +kernel
theorem dL_deny_21 : decode cL_deny 21 = .ok (.iconst 2, 1) := by decide +kernel
theorem dL_deny_22 : decode cL_deny 22 = .ok (.ireturn, 1) := by decide +kernel
theorem dL_deny_23 : decode cL_deny 23 = .ok (.iconst 0, 1) := by decide +kernel
theorem dL_deny_24 : decode cL_deny 24 = .ok (.ireturn, 1) := by decide +kernel
theorem dL_queued_0 : decode cL_queued 0 = .ok (.aload_n 2, 1) := by decide +kernel
theorem dL_queued_1 : decode cL_queued 1 = .ok (.iconst 0, 1) := by decide +kernel
theorem dL_queued_2 : decode cL_queued 2 = .ok (.aload_n 0, 1) := by decide +kernel
theorem dL_queued_3 : decode cL_queued 3 = .ok (.iload_n 1, 1) := by decide +kernel
theorem dL_queued_4 : decode cL_queued 4 = .ok (.invokevirtual 62, 3) := by decide +kernel
theorem dL_queued_7 : decode cL_queued 7 = .ok (.i2l, 1) := by decide +kernel
theorem dL_queued_8 : decode cL_queued 8 = .ok (.lastore, 1) := by decide +kernel
theorem dL_queued_9 : decode cL_queued 9 = .ok (.goto 6, 3) := by decide +kernel
theorem dL_queued_12 : decode cL_queued 12 = .ok (.astore_n 3, 1) := by decide +kernel
theorem dL_queued_13 : decode cL_queued 13 = .ok (.iconst 1, 1) := by decide +kernel
theorem dL_queued_14 : decode cL_queued 14 = .ok (.ireturn, 1) := by decide +kernel
theorem dL_queued_15 : decode cL_queued 15 = .ok (.iconst 0, 1) := by decide +kernel
theorem dL_queued_16 : decode cL_queued 16 = .ok (.ireturn, 1) := by decide +kernel
theorem dL_queuedAt_0 : decode cL_queuedAt 0 = .ok (.aload_n 3, 1) := by decide +kernel
theorem dL_queuedAt_1 : decode cL_queuedAt 1 = .ok (.iconst 0, 1) := by decide +kernel
theorem dL_queuedAt_2 : decode cL_queuedAt 2 = .ok (.aload_n 0, 1) := by decide +kernel
theorem dL_queuedAt_3 : decode cL_queuedAt 3 = .ok (.iload_n 1, 1) := by decide +kernel
theorem dL_queuedAt_4 : decode cL_queuedAt 4 = .ok (.iload_n 2, 1) := by decide +kernel
theorem dL_queuedAt_5 : decode cL_queuedAt 5 = .ok (.invokevirtual 65, 3) := by decide +kernel
theorem dL_queuedAt_8 : decode cL_queuedAt 8 = .ok (.i2l, 1) := by decide +kernel
theorem dL_queuedAt_9 : decode cL_queuedAt 9 = .ok (.lastore, 1) := by decide +kernel
theorem dL_queuedAt_10 : decode cL_queuedAt 10 = .ok (.goto 11, 3) := by decide +kernel
theorem dL_queuedAt_13 : decode cL_queuedAt 13 = .ok (.astore 4, 2) := by decide +kernel
theorem dL_queuedAt_15 : decode cL_queuedAt 15 = .ok (.iconst 1, 1) := by decide +kernel
theorem dL_queuedAt_16 : decode cL_queuedAt 16 = .ok (.ireturn, 1) := by decide +kernel
theorem dL_queuedAt_17 : decode cL_queuedAt 17 = .ok (.astore 4, 2) := by decide +kernel
theorem dL_queuedAt_19 : decode cL_queuedAt 19 = .ok (.iconst 2, 1) := by decide +kernel
theorem dL_queuedAt_20 : decode cL_queuedAt 20 = .ok (.ireturn, 1) := by decide +kernel
theorem dL_queuedAt_21 : decode cL_queuedAt 21 = .ok (.iconst 0, 1) := by decide +kernel
theorem dL_queuedAt_22 : decode cL_queuedAt 22 = .ok (.ireturn, 1) := by decide +kernel
theorem dL_isDue_0 : decode cL_isDue 0 = .ok (.aload_n 2, 1) := by decide +kernel
theorem dL_isDue_1 : decode cL_isDue 1 = .ok (.iconst 0, 1) := by decide +kernel
theorem dL_isDue_2 : decode cL_isDue 2 = .ok (.aload_n 0, 1) := by decide +kernel
theorem dL_isDue_3 : decode cL_isDue 3 = .ok (.iload_n 1, 1) := by decide +kernel
theorem dL_isDue_4 : decode cL_isDue 4 = .ok (.invokevirtual 68, 3) := by decide +kernel
theorem dL_isDue_7 : decode cL_isDue 7 = .ok (.ifCond .eq 7, 3) := by decide +kernel
theorem dL_isDue_10 : decode cL_isDue 10 = .ok (.lconst 1, 1) := by decide +kernel
theorem dL_isDue_11 : decode cL_isDue 11 = .ok (.goto 4, 3) := by decide +kernel
theorem dL_isDue_14 : decode cL_isDue 14 = .ok (.lconst 0, 1) := by decide +kernel
theorem dL_isDue_15 : decode cL_isDue 15 = .ok (.lastore, 1) := by decide +kernel
theorem dL_isDue_16 : decode cL_isDue 16 = .ok (.goto 6, 3) := by decide +kernel
theorem dL_isDue_19 : decode cL_isDue 19 = .ok (.astore_n 3, 1) := by decide +kernel
theorem dL_isDue_20 : decode cL_isDue 20 = .ok (.iconst 1, 1) := by decide +kernel
theorem dL_isDue_21 : decode cL_isDue 21 = .ok (.ireturn, 1) := by decide +kernel
theorem dL_isDue_22 : decode cL_isDue 22 = .ok (.iconst 0, 1) := by decide +kernel
theorem dL_isDue_23 : decode cL_isDue 23 = .ok (.ireturn, 1) := by decide +kernel
theorem dL_pass_0 : decode cL_pass 0 = .ok (.aload_n 3, 1) := by decide +kernel
theorem dL_pass_1 : decode cL_pass 1 = .ok (.iconst 0, 1) := by decide +kernel
theorem dL_pass_2 : decode cL_pass 2 = .ok (.aload_n 0, 1) := by decide +kernel
theorem dL_pass_3 : decode cL_pass 3 = .ok (.iload_n 1, 1) := by decide +kernel
theorem dL_pass_4 : decode cL_pass 4 = .ok (.iload_n 2, 1) := by decide +kernel
theorem dL_pass_5 : decode cL_pass 5 = .ok (.invokevirtual 71, 3) := by decide +kernel
theorem dL_pass_8 : decode cL_pass 8 = .ok (.i2l, 1) := by decide +kernel
theorem dL_pass_9 : decode cL_pass 9 = .ok (.lastore, 1) := by decide +kernel
theorem dL_pass_10 : decode cL_pass 10 = .ok (.goto 11, 3) := by decide +kernel
theorem dL_pass_13 : decode cL_pass 13 = .ok (.astore 4, 2) := by decide +kernel
theorem dL_pass_15 : decode cL_pass 15 = .ok (.iconst 1, 1) := by decide +kernel
theorem dL_pass_16 : decode cL_pass 16 = .ok (.ireturn, 1) := by decide +kernel
theorem dL_pass_17 : decode cL_pass 17 = .ok (.astore 4, 2) := by decide +kernel
theorem dL_pass_19 : decode cL_pass 19 = .ok (.iconst 2, 1) := by decide +kernel
theorem dL_pass_20 : decode cL_pass 20 = .ok (.ireturn, 1) := by decide +kernel
theorem dL_pass_21 : decode cL_pass 21 = .ok (.iconst 0, 1) := by decide +kernel
theorem dL_pass_22 : decode cL_pass 22 = .ok (.ireturn, 1) := by decide +kernel
theorem dL_readers_0 : decode cL_readers 0 = .ok (.aload_n 3, 1) := by decide +kernel
theorem dL_readers_1 : decode cL_readers 1 = .ok (.iconst 0, 1) := by decide +kernel
theorem dL_readers_2 : decode cL_readers 2 = .ok (.aload_n 0, 1) := by decide +kernel
theorem dL_readers_3 : decode cL_readers 3 = .ok (.iload_n 1, 1) := by decide +kernel
theorem dL_readers_4 : decode cL_readers 4 = .ok (.iload_n 2, 1) := by decide +kernel
theorem dL_readers_5 : decode cL_readers 5 = .ok (.invokevirtual 74, 3) := by decide +kernel
theorem dL_readers_8 : decode cL_readers 8 = .ok (.i2l, 1) := by decide +kernel
theorem dL_readers_9 : decode cL_readers 9 = .ok (.lastore, 1) := by decide +kernel
theorem dL_readers_10 : decode cL_readers 10 = .ok (.goto 11, 3) := by decide +kernel
theorem dL_readers_13 : decode cL_readers 13 = .ok (.astore 4, 2) := by decide +kernel
theorem dL_readers_15 : decode cL_readers 15 = .ok (.iconst 1, 1) := by decide +kernel
theorem dL_readers_16 : decode cL_readers 16 = .ok (.ireturn, 1) := by decide +kernel
theorem dL_readers_17 : decode cL_readers 17 = .ok (.astore 4, 2) := by decide +kernel
theorem dL_readers_19 : decode cL_readers 19 = .ok (.iconst 2, 1) := by decide +kernel
theorem dL_readers_20 : decode cL_readers 20 = .ok (.ireturn, 1) := by decide +kernel
theorem dL_readers_21 : decode cL_readers 21 = .ok (.iconst 0, 1) := by decide +kernel
theorem dL_readers_22 : decode cL_readers 22 = .ok (.ireturn, 1) := by decide +kernel
theorem dL_readIn_0 : decode cL_readIn 0 = .ok (.aload_n 3, 1) := by decide +kernel
theorem dL_readIn_1 : decode cL_readIn 1 = .ok (.iconst 0, 1) := by decide +kernel
theorem dL_readIn_2 : decode cL_readIn 2 = .ok (.aload_n 0, 1) := by decide +kernel
theorem dL_readIn_3 : decode cL_readIn 3 = .ok (.iload_n 1, 1) := by decide +kernel
theorem dL_readIn_4 : decode cL_readIn 4 = .ok (.iload_n 2, 1) := by decide +kernel
theorem dL_readIn_5 : decode cL_readIn 5 = .ok (.invokevirtual 77, 3) := by decide +kernel
theorem dL_readIn_8 : decode cL_readIn 8 = .ok (.i2l, 1) := by decide +kernel
theorem dL_readIn_9 : decode cL_readIn 9 = .ok (.lastore, 1) := by decide +kernel
theorem dL_readIn_10 : decode cL_readIn 10 = .ok (.goto 7, 3) := by decide +kernel
theorem dL_readIn_13 : decode cL_readIn 13 = .ok (.astore 4, 2) := by decide +kernel
theorem dL_readIn_15 : decode cL_readIn 15 = .ok (.iconst 1, 1) := by decide +kernel
theorem dL_readIn_16 : decode cL_readIn 16 = .ok (.ireturn, 1) := by decide +kernel
theorem dL_readIn_17 : decode cL_readIn 17 = .ok (.iconst 0, 1) := by decide +kernel
theorem dL_readIn_18 : decode cL_readIn 18 = .ok (.ireturn, 1) := by decide +kernel
theorem dL_suspects_0 : decode cL_suspects 0 = .ok (.aload_n 3, 1) := by decide +kernel
theorem dL_suspects_1 : decode cL_suspects 1 = .ok (.iconst 0, 1) := by decide +kernel
theorem dL_suspects_2 : decode cL_suspects 2 = .ok (.aload_n 0, 1) := by decide +kernel
theorem dL_suspects_3 : decode cL_suspects 3 = .ok (.iload_n 1, 1) := by decide +kernel
theorem dL_suspects_4 : decode cL_suspects 4 = .ok (.iload_n 2, 1) := by decide +kernel
theorem dL_suspects_5 : decode cL_suspects 5 = .ok (.invokevirtual 80, 3) := by decide +kernel
theorem dL_suspects_8 : decode cL_suspects 8 = .ok (.i2l, 1) := by decide +kernel
theorem dL_suspects_9 : decode cL_suspects 9 = .ok (.lastore, 1) := by decide +kernel
theorem dL_suspects_10 : decode cL_suspects 10 = .ok (.goto 7, 3) := by decide +kernel
theorem dL_suspects_13 : decode cL_suspects 13 = .ok (.astore 4, 2) := by decide +kernel
theorem dL_suspects_15 : decode cL_suspects 15 = .ok (.iconst 1, 1) := by decide +kernel
theorem dL_suspects_16 : decode cL_suspects 16 = .ok (.ireturn, 1) := by decide +kernel
theorem dL_suspects_17 : decode cL_suspects 17 = .ok (.iconst 0, 1) := by decide +kernel
theorem dL_suspects_18 : decode cL_suspects 18 = .ok (.ireturn, 1) := by decide +kernel
theorem dL_suspectAt_0 : decode cL_suspectAt 0 = .ok (.aload 4, 2) := by decide +kernel
theorem dL_suspectAt_2 : decode cL_suspectAt 2 = .ok (.iconst 0, 1) := by decide +kernel
theorem dL_suspectAt_3 : decode cL_suspectAt 3 = .ok (.aload_n 0, 1) := by decide +kernel
theorem dL_suspectAt_4 : decode cL_suspectAt 4 = .ok (.iload_n 1, 1) := by decide +kernel
theorem dL_suspectAt_5 : decode cL_suspectAt 5 = .ok (.iload_n 2, 1) := by decide +kernel
theorem dL_suspectAt_6 : decode cL_suspectAt 6 = .ok (.iload_n 3, 1) := by decide +kernel
theorem dL_suspectAt_7 : decode cL_suspectAt 7 = .ok (.invokevirtual 83, 3) := by decide +kernel
theorem dL_suspectAt_10 : decode cL_suspectAt 10 = .ok (.i2l, 1) := by decide +kernel
theorem dL_suspectAt_11 : decode cL_suspectAt 11 = .ok (.lastore, 1) := by decide +kernel
theorem dL_suspectAt_12 : decode cL_suspectAt 12 = .ok (.goto 11, 3) := by decide +kernel
theorem dL_suspectAt_15 : decode cL_suspectAt 15 = .ok (.astore 5, 2) := by decide +kernel
theorem dL_suspectAt_17 : decode cL_suspectAt 17 = .ok (.iconst 1, 1) := by decide +kernel
theorem dL_suspectAt_18 : decode cL_suspectAt 18 = .ok (.ireturn, 1) := by decide +kernel
theorem dL_suspectAt_19 : decode cL_suspectAt 19 = .ok (.astore 5, 2) := by decide +kernel
theorem dL_suspectAt_21 : decode cL_suspectAt 21 = .ok (.iconst 2, 1) := by decide +kernel
theorem dL_suspectAt_22 : decode cL_suspectAt 22 = .ok (.ireturn, 1) := by decide +kernel
theorem dL_suspectAt_23 : decode cL_suspectAt 23 = .ok (.iconst 0, 1) := by decide +kernel
theorem dL_suspectAt_24 : decode cL_suspectAt 24 = .ok (.ireturn, 1) := by decide +kernel
theorem dL_go_0 : decode cL_go 0 = .ok (.aload_n 2, 1) := by decide +kernel
theorem dL_go_1 : decode cL_go 1 = .ok (.iconst 0, 1) := by decide +kernel
theorem dL_go_2 : decode cL_go 2 = .ok (.aload_n 0, 1) := by decide +kernel
theorem dL_go_3 : decode cL_go 3 = .ok (.iload_n 1, 1) := by decide +kernel
theorem dL_go_4 : decode cL_go 4 = .ok (.invokevirtual 86, 3) := by decide +kernel
theorem dL_go_7 : decode cL_go 7 = .ok (.i2l, 1) := by decide +kernel
theorem dL_go_8 : decode cL_go 8 = .ok (.lastore, 1) := by decide +kernel
theorem dL_go_9 : decode cL_go 9 = .ok (.goto 9, 3) := by decide +kernel
theorem dL_go_12 : decode cL_go 12 = .ok (.astore_n 3, 1) := by decide +kernel
theorem dL_go_13 : decode cL_go 13 = .ok (.iconst 1, 1) := by decide +kernel
theorem dL_go_14 : decode cL_go 14 = .ok (.ireturn, 1) := by decide +kernel
theorem dL_go_15 : decode cL_go 15 = .ok (.astore_n 3, 1) := by decide +kernel
theorem dL_go_16 : decode cL_go 16 = .ok (.iconst 2, 1) := by decide +kernel
theorem dL_go_17 : decode cL_go 17 = .ok (.ireturn, 1) := by decide +kernel
theorem dL_go_18 : decode cL_go 18 = .ok (.iconst 0, 1) := by decide +kernel
theorem dL_go_19 : decode cL_go 19 = .ok (.ireturn, 1) := by decide +kernel
theorem dL_cellAnew_0 : decode cL_cellAnew 0 = .ok (.aload 4, 2) := by decide +kernel
theorem dL_cellAnew_2 : decode cL_cellAnew 2 = .ok (.iconst 0, 1) := by decide +kernel
theorem dL_cellAnew_3 : decode cL_cellAnew 3 = .ok (.aload_n 0, 1) := by decide +kernel
theorem dL_cellAnew_4 : decode cL_cellAnew 4 = .ok (.iload_n 1, 1) := by decide +kernel
theorem dL_cellAnew_5 : decode cL_cellAnew 5 = .ok (.iload_n 2, 1) := by decide +kernel
theorem dL_cellAnew_6 : decode cL_cellAnew 6 = .ok (.iload_n 3, 1) := by decide +kernel
theorem dL_cellAnew_7 : decode cL_cellAnew 7 = .ok (.invokevirtual 89, 3) := by decide +kernel
theorem dL_cellAnew_10 : decode cL_cellAnew 10 = .ok (.i2l, 1) := by decide +kernel
theorem dL_cellAnew_11 : decode cL_cellAnew 11 = .ok (.lastore, 1) := by decide +kernel
theorem dL_cellAnew_12 : decode cL_cellAnew 12 = .ok (.goto 7, 3) := by decide +kernel
theorem dL_cellAnew_15 : decode cL_cellAnew 15 = .ok (.astore 5, 2) := by decide +kernel
theorem dL_cellAnew_17 : decode cL_cellAnew 17 = .ok (.iconst 1, 1) := by decide +kernel
theorem dL_cellAnew_18 : decode cL_cellAnew 18 = .ok (.ireturn, 1) := by decide +kernel
theorem dL_cellAnew_19 : decode cL_cellAnew 19 = .ok (.iconst 0, 1) := by decide +kernel
theorem dL_cellAnew_20 : decode cL_cellAnew 20 = .ok (.ireturn, 1) := by decide +kernel
theorem dL_worst_0 : decode cL_worst 0 = .ok (.aload_n 2, 1) := by decide +kernel
theorem dL_worst_1 : decode cL_worst 1 = .ok (.iconst 0, 1) := by decide +kernel
theorem dL_worst_2 : decode cL_worst 2 = .ok (.aload_n 0, 1) := by decide +kernel
theorem dL_worst_3 : decode cL_worst 3 = .ok (.iload_n 1, 1) := by decide +kernel
theorem dL_worst_4 : decode cL_worst 4 = .ok (.invokevirtual 92, 3) := by decide +kernel
theorem dL_worst_7 : decode cL_worst 7 = .ok (.i2l, 1) := by decide +kernel
theorem dL_worst_8 : decode cL_worst 8 = .ok (.lastore, 1) := by decide +kernel
theorem dL_worst_9 : decode cL_worst 9 = .ok (.goto 6, 3) := by decide +kernel
theorem dL_worst_12 : decode cL_worst 12 = .ok (.astore_n 3, 1) := by decide +kernel
theorem dL_worst_13 : decode cL_worst 13 = .ok (.iconst 1, 1) := by decide +kernel
theorem dL_worst_14 : decode cL_worst 14 = .ok (.ireturn, 1) := by decide +kernel
theorem dL_worst_15 : decode cL_worst 15 = .ok (.iconst 0, 1) := by decide +kernel
theorem dL_worst_16 : decode cL_worst 16 = .ok (.ireturn, 1) := by decide +kernel
theorem dL_shownShare_0 : decode cL_shownShare 0 = .ok (.aload_n 1, 1) := by decide +kernel
theorem dL_shownShare_1 : decode cL_shownShare 1 = .ok (.iconst 0, 1) := by decide +kernel
theorem dL_shownShare_2 : decode cL_shownShare 2 = .ok (.aload_n 0, 1) := by decide +kernel
theorem dL_shownShare_3 : decode cL_shownShare 3 = .ok (.invokevirtual 95, 3) := by decide +kernel
theorem dL_shownShare_6 : decode cL_shownShare 6 = .ok (.f2d, 1) := by decide +kernel
theorem dL_shownShare_7 : decode cL_shownShare 7 = .ok (.dastore, 1) := by decide +kernel
theorem dL_shownShare_8 : decode cL_shownShare 8 = .ok (.goto 6, 3) := by decide +kernel
theorem dL_shownShare_11 : decode cL_shownShare 11 = .ok (.astore_n 2, 1) := by decide +kernel
theorem dL_shownShare_12 : decode cL_shownShare 12 = .ok (.iconst 1, 1) := by decide +kernel
theorem dL_shownShare_13 : decode cL_shownShare 13 = .ok (.ireturn, 1) := by decide +kernel
theorem dL_shownShare_14 : decode cL_shownShare 14 = .ok (.iconst 0, 1) := by decide +kernel
theorem dL_shownShare_15 : decode cL_shownShare 15 = .ok (.ireturn, 1) := by decide +kernel
theorem dL_meanWear_0 : decode cL_meanWear 0 = .ok (.aload_n 1, 1) := by decide +kernel
theorem dL_meanWear_1 : decode cL_meanWear 1 = .ok (.iconst 0, 1) := by decide +kernel
theorem dL_meanWear_2 : decode cL_meanWear 2 = .ok (.aload_n 0, 1) := by decide +kernel
theorem dL_meanWear_3 : decode cL_meanWear 3 = .ok (.invokevirtual 101, 3) := by decide +kernel
theorem dL_meanWear_6 : decode cL_meanWear 6 = .ok (.dastore, 1) := by decide +kernel
theorem dL_meanWear_7 : decode cL_meanWear 7 = .ok (.goto 6, 3) := by decide +kernel
theorem dL_meanWear_10 : decode cL_meanWear 10 = .ok (.astore_n 2, 1) := by decide +kernel
theorem dL_meanWear_11 : decode cL_meanWear 11 = .ok (.iconst 1, 1) := by decide +kernel
theorem dL_meanWear_12 : decode cL_meanWear 12 = .ok (.ireturn, 1) := by decide +kernel
theorem dL_meanWear_13 : decode cL_meanWear 13 = .ok (.iconst 0, 1) := by decide +kernel
theorem dL_meanWear_14 : decode cL_meanWear 14 = .ok (.ireturn, 1) := by decide +kernel
abbrev vwCl : List vw_C := [(RJ0, TJ0, 2), (RJx00060, TJx00060, 6), (RX0, TX0, 12), (RX1, TX1, 9), (RX2, TX2, 4), (RX3, TX3, 8), (RX4, TX4, 22)]

