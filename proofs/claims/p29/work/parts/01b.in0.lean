theorem tin_r {big : List Cond} (ws : List Cond) (ps : List Nat) (hp : ws = ps.filterMap (fun i => big[i]?)) : ∀ w ∈ ws, w ∈ big := by
  intro w hw
  rw [hp] at hw
  obtain ⟨i, -, hi⟩ := List.mem_filterMap.mp hw
  exact List.mem_of_getElem? hi
def gp_ : List Nat → List Cond → List Cond → List Cond
  | [], _, _ => []
  | 0 :: ks, big, _ => gp_ ks big big
  | (k + 1) :: ks, big, cur => match cur.drop k with
    | [] => []
    | c :: cs => c :: gp_ ks big cs
theorem gp_mem {big : List Cond} : ∀ (ks : List Nat) (cur : List Cond), (∀ w ∈ cur, w ∈ big) → ∀ w ∈ gp_ ks big cur, w ∈ big := by
  intro ks
  induction ks with
  | nil => intro cur _ w hw; simp only [gp_] at hw; exact absurd hw List.not_mem_nil
  | cons k ks ih =>
    intro cur hc w hw
    cases k with
    | zero => simp only [gp_] at hw; exact ih big (fun _ h => h) w hw
    | succ k =>
      simp only [gp_] at hw
      cases he : cur.drop k with
      | nil => rw [he] at hw; exact absurd hw List.not_mem_nil
      | cons c cs =>
        rw [he] at hw
        have hsub : ∀ z ∈ c :: cs, z ∈ big := fun z hz => hc z (List.mem_of_mem_drop (he ▸ hz))
        rcases List.mem_cons.mp hw with h | h
        · exact h ▸ hsub c List.mem_cons_self
        · exact ih cs (fun z hz => hsub z (List.mem_cons_of_mem _ hz)) w h
theorem goodIn_g {big : List Cond} (ws : List Cond) (ks : List Nat) (hp : ws = gp_ ks big big) (h : ws.all goodWord = true) : GoodIn big ws := by
  intro w hw
  exact ⟨gp_mem ks big (fun _ h => h) w (hp ▸ hw), good_of_word (List.all_eq_true.mp h w hw)⟩
theorem tin_g {big : List Cond} (ws : List Cond) (ks : List Nat) (hp : ws = gp_ ks big big) : ∀ w ∈ ws, w ∈ big := fun w hw => gp_mem ks big (fun _ h => h) w (hp ▸ hw)
set_option maxRecDepth 100000 in
theorem wsL_law0_r1_in : ∀ w ∈ wsL_law0_r1, w ∈ lw_tbl := tin_g wsL_law0_r1 [56, 1, 0, 39, 710, 1, 0, 43, 1018, 1, 0, 58, 1, 1, 1, 1, 1, 1, 115, 1, 0, 66, 115, 1, 1, 0, 68, 1, 0, 40] rfl
set_option maxRecDepth 100000 in
theorem wsL_law0_r2_in : ∀ w ∈ wsL_law0_r2, w ∈ lw_tbl := tin_g wsL_law0_r2 [184, 1, 1, 0, 88, 0, 41, 96, 0, 42, 29, 1, 1, 14, 0, 74, 1, 1, 1, 13, 1, 1, 1, 2, 2, 2, 2, 2] rfl
set_option maxRecDepth 100000 in
theorem wsL_law0_r3_in : ∀ w ∈ wsL_law0_r3, w ∈ lw_tbl := tin_g wsL_law0_r3 [105, 1, 2, 1, 1, 1, 27, 1, 1, 1, 3, 2, 2, 3, 2, 2, 2, 2, 0, 142, 609, 1, 1, 1, 4] rfl
set_option maxRecDepth 100000 in
theorem wsL_law0_r4_in : ∀ w ∈ wsL_law0_r4, w ∈ lw_tbl := tin_g wsL_law0_r4 [762, 1, 1, 1, 58, 0, 766, 1, 1, 1, 1, 1, 1, 1, 1, 1, 1, 0, 755, 22, 0, 259, 1, 0, 38, 223, 1, 2] rfl
set_option maxRecDepth 100000 in
theorem wsL_law0_r5_in : ∀ w ∈ wsL_law0_r5, w ∈ lw_tbl := tin_g wsL_law0_r5 [265, 1, 1, 4, 0, 47, 296, 0, 48, 220, 1, 1, 89, 1, 1, 1, 466, 1, 1, 1, 0, 756, 3, 73, 1, 1, 1] rfl
set_option maxRecDepth 100000 in
theorem wsL_law0_r6_in : ∀ w ∈ wsL_law0_r6, w ∈ lw_tbl := tin_g wsL_law0_r6 [836, 1, 1, 2, 0, 17, 824, 0, 363, 1, 1, 1, 1, 1, 1, 473, 1, 1, 1, 0, 371, 1, 1, 1, 24, 1, 1] rfl
set_option maxRecDepth 100000 in
theorem wsL_law0_r7_in : ∀ w ∈ wsL_law0_r7, w ∈ lw_tbl := tin_g wsL_law0_r7 [401, 1, 2, 0, 2, 403, 1, 0, 49, 797, 1, 1, 1, 1, 2, 0, 18, 835, 0, 419, 1, 1, 1, 1, 1, 1, 1, 1] rfl
set_option maxRecDepth 100000 in
theorem wsL_law0_r8_in : ∀ w ∈ wsL_law0_r8, w ∈ lw_tbl := tin_g wsL_law0_r8 [428, 0, 229, 1, 1, 623, 1, 1, 1, 1, 2, 0, 19, 842, 0, 430, 1, 1, 1, 1, 1, 1, 0, 232, 1, 1, 1, 627] rfl
set_option maxRecDepth 100000 in
theorem wsL_law0_r9_in : ∀ w ∈ wsL_law0_r9, w ∈ lw_tbl := tin_g wsL_law0_r9 [863, 1, 1, 0, 437, 1, 1, 1, 1, 1, 1, 423, 1, 1, 1, 0, 444, 1, 1, 1, 1, 1, 1, 420, 1, 1] rfl
set_option maxRecDepth 100000 in
theorem wsL_law0_r10_in : ∀ w ∈ wsL_law0_r10, w ∈ lw_tbl := tin_g wsL_law0_r10 [873, 0, 451, 1, 1, 1, 1, 1, 1, 417, 1, 1, 1, 0, 458, 1, 1, 1, 1, 1, 1, 4, 2, 0, 3, 468, 2] rfl
set_option maxRecDepth 100000 in
theorem wsL_law0_r11_in : ∀ w ∈ wsL_law0_r11, w ∈ lw_tbl := tin_g wsL_law0_r11 [474, 1, 1, 402, 1, 1, 1, 0, 760, 122, 2, 0, 20, 865, 0, 477, 1, 1, 2, 1, 1, 1, 6, 0, 52, 433, 2, 0, 4] rfl
set_option maxRecDepth 100000 in
theorem wsL_law0_r12_in : ∀ w ∈ wsL_law0_r12, w ∈ lw_tbl := tin_g wsL_law0_r12 [488, 18, 1, 1, 1, 2, 1, 1, 1, 1, 1, 1, 1, 368, 1, 1, 1, 1, 2, 0, 21, 872, 0, 519, 1, 1] rfl
set_option maxRecDepth 100000 in
theorem wsL_law0_r13_in : ∀ w ∈ wsL_law0_r13, w ∈ lw_tbl := tin_g wsL_law0_r13 [522, 1, 1, 1, 3, 2, 0, 5, 526, 363, 1, 1, 1, 0, 757, 0, 532, 1, 1, 1, 1, 1, 1, 4, 1, 0, 53, 491] rfl
set_option maxRecDepth 100000 in
theorem wsL_law0_r14_in : ∀ w ∈ wsL_law0_r14, w ∈ lw_tbl := tin_g wsL_law0_r14 [545, 1, 1, 0, 540, 8, 2, 0, 6, 545, 1, 2, 0, 7, 548, 343, 1, 1, 1, 1, 1, 1, 1, 1, 1, 1, 2] rfl
set_option maxRecDepth 100000 in
theorem wsL_law0_r15_in : ∀ w ∈ wsL_law0_r15, w ∈ lw_tbl := tin_g wsL_law0_r15 [22, 889, 0, 556, 1, 1, 1, 1, 1, 1, 350, 1, 1, 1, 0, 565, 1, 1, 1, 1, 1, 1, 345, 1, 1, 1] rfl
set_option maxRecDepth 100000 in
theorem wsL_law0_r16_in : ∀ w ∈ wsL_law0_r16, w ∈ lw_tbl := tin_g wsL_law0_r16 [920, 2, 0, 23, 900, 1, 2, 0, 24, 903, 0, 572, 1, 1, 1, 1, 1, 1, 350, 1, 1, 1, 1, 2, 0, 25, 910, 0, 580] rfl
set_option maxRecDepth 100000 in
theorem wsL_law0_r17_in : ∀ w ∈ wsL_law0_r17, w ∈ lw_tbl := tin_g wsL_law0_r17 [581, 1, 1, 1, 1, 1, 0, 240, 1, 1, 1, 693, 1, 1, 1, 1, 2, 0, 26, 917, 0, 587, 1, 1, 1, 1, 1] rfl
set_option maxRecDepth 100000 in
theorem wsL_law0_r18_in : ∀ w ∈ wsL_law0_r18, w ∈ lw_tbl := tin_g wsL_law0_r18 [593, 2, 1, 1, 1, 1, 2, 0, 8, 594, 342, 1, 1, 1, 0, 603, 1, 1, 1, 1, 1, 1, 339, 1, 1, 1] rfl
set_option maxRecDepth 100000 in
theorem wsL_law0_r19_in : ∀ w ∈ wsL_law0_r19, w ∈ lw_tbl := tin_g wsL_law0_r19 [610, 1, 1, 1, 1, 1, 1, 1, 1, 1, 1, 332, 1, 1, 1, 0, 621, 1, 1, 1, 1, 1, 1, 1, 1] rfl
set_option maxRecDepth 100000 in
theorem wsL_law0_r20_in : ∀ w ∈ wsL_law0_r20, w ∈ lw_tbl := tin_g wsL_law0_r20 [630, 2, 2, 0, 9, 626, 1, 1, 1, 1, 2, 1, 1, 313, 1, 1, 1, 1, 2, 0, 27, 936, 1, 2, 0, 28, 939] rfl
set_option maxRecDepth 100000 in
theorem wsL_law0_r21_in : ∀ w ∈ wsL_law0_r21, w ∈ lw_tbl := tin_g wsL_law0_r21 [968, 1, 1, 0, 644, 1, 1, 1, 1, 1, 1, 1, 2, 0, 10, 644, 317, 1, 1, 1, 0, 656, 1, 1, 1, 1, 1] rfl
set_option maxRecDepth 100000 in
theorem wsL_law0_r22_in : ∀ w ∈ wsL_law0_r22, w ∈ lw_tbl := tin_g wsL_law0_r22 [662, 3, 2, 0, 11, 657, 1, 1, 1, 1, 1, 1, 1, 1, 1, 1, 2, 0, 12, 669, 0, 249, 1, 0, 54, 197, 1, 1] rfl
set_option maxRecDepth 100000 in
theorem wsL_law0_r23_in : ∀ w ∈ wsL_law0_r23, w ∈ lw_tbl := tin_g wsL_law0_r23 [254, 428, 2, 0, 13, 672, 1, 1, 1, 1, 1, 2, 0, 14, 679, 2, 2, 0, 15, 683, 1, 2, 0, 16, 686, 273, 1, 1] rfl
set_option maxRecDepth 100000 in
theorem wsL_law0_r24_in : ∀ w ∈ wsL_law0_r24, w ∈ lw_tbl := tin_g wsL_law0_r24 [978, 1, 2, 0, 29, 953, 1, 2, 0, 30, 956, 0, 761, 226, 2, 0, 31, 959, 1, 2, 0, 32, 962, 1, 2, 0, 33, 965, 1, 2] rfl
set_option maxRecDepth 100000 in
theorem wsL_law0_r25_in : ∀ w ∈ wsL_law0_r25, w ∈ lw_tbl := tin_g wsL_law0_r25 [34, 968, 1, 2, 0, 35, 971, 1, 1, 1, 1, 2, 0, 36, 977, 1, 2, 0, 37, 980, 0, 204, 1, 1, 1, 811, 1, 1] rfl
set_option maxRecDepth 100000 in
theorem wsL_law0_r26_in : ∀ w ∈ wsL_law0_r26, w ∈ lw_tbl := tin_g wsL_law0_r26 [1021, 0, 208, 1, 1, 1, 811, 1, 1, 1, 0, 212, 1, 1, 1, 811, 1, 1, 1, 0, 703, 1, 1, 1, 1, 1, 1] rfl
set_option maxRecDepth 100000 in
theorem wsL_law0_r27_in : ∀ w ∈ wsL_law0_r27, w ∈ lw_tbl := tin_g wsL_law0_r27 [255, 1, 1, 1, 772, 1, 1, 1, 1, 0, 216, 1, 1, 1, 1, 1, 1, 1, 812, 1, 1, 1, 0, 710, 1, 1] rfl
set_option maxRecDepth 100000 in
theorem wsL_law0_r28_in : ∀ w ∈ wsL_law0_r28, w ∈ lw_tbl := tin_g wsL_law0_r28 [713, 1, 1, 1, 323, 1, 1, 1, 0, 824, 1, 1, 1, 0, 224, 1, 1, 1, 1, 815, 1, 1, 1, 1, 1, 0, 717] rfl
set_option maxRecDepth 100000 in
theorem wsL_law0_r29_in : ∀ w ∈ wsL_law0_r29, w ∈ lw_tbl := tin_g wsL_law0_r29 [718, 1, 1, 14, 1, 1, 1, 1, 0, 55, 994, 1, 1, 1, 0, 741, 1, 1, 1, 1, 1, 1, 1, 305, 1, 1] rfl
set_option maxRecDepth 100000 in
theorem wsL_law0_r30_in : ∀ w ∈ wsL_law0_r30, w ∈ lw_tbl := tin_g wsL_law0_r30 [1056, 0, 236, 1, 1, 1, 5, 1, 1, 1, 810, 1, 1, 1] rfl
set_option maxRecDepth 100000 in
theorem wsX30_inT : ∀ w ∈ wsX30, w ∈ lw_tbl := tin_g wsX30 [187, 2, 2, 2, 2, 2, 2, 2] rfl
set_option maxRecDepth 100000 in
theorem wsX40_inT : ∀ w ∈ wsX40, w ∈ lw_tbl := tin_g wsX40 [778, 2, 2, 2, 2, 2, 2, 2, 2, 2, 2, 2, 2, 2, 2, 2, 2, 2, 2, 2, 2, 2] rfl
set_option maxRecDepth 100000 in
theorem wsX20_inT : ∀ w ∈ wsX20, w ∈ lw_tbl := tin_g wsX20 [78, 2, 2, 2] rfl
set_option maxRecDepth 100000 in
theorem wsX00_inT : ∀ w ∈ wsX00, w ∈ lw_tbl := tin_g wsX00 [112, 2, 2, 2, 2, 2, 2, 2, 2, 2, 2, 2] rfl
set_option maxRecDepth 100000 in
theorem wsX10_inT : ∀ w ∈ wsX10, w ∈ lw_tbl := tin_g wsX10 [160, 2, 2, 2, 2, 2, 2, 2, 2] rfl

