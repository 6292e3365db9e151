theorem tin_r {big : List Cond} (ws : List Cond) (ps : List Nat) (hp : ws = ps.filterMap (fun i => big[i]?)) : ∀ w ∈ ws, w ∈ big := by
  intro w hw
  rw [hp] at hw
  obtain ⟨i, -, hi⟩ := List.mem_filterMap.mp hw
  exact List.mem_of_getElem? hi
set_option maxRecDepth 100000 in
theorem wsL_law0_r1_in : ∀ w ∈ wsL_law0_r1, w ∈ lw_tbl := tin_r wsL_law0_r1 [55, 56, 38, 748, 749, 42, 1060, 1061, 57, 58, 59, 60, 61, 62, 63, 178, 179, 65, 180, 181, 182, 67, 68, 39] rfl
set_option maxRecDepth 100000 in
theorem wsL_law0_r2_in : ∀ w ∈ wsL_law0_r2, w ∈ lw_tbl := tin_r wsL_law0_r2 [183, 184, 185, 87, 40, 136, 41, 70, 71, 72, 86, 73, 74, 75, 76, 89, 90, 91, 92, 94, 96, 98, 100, 102] rfl
set_option maxRecDepth 100000 in
theorem wsL_law0_r3_in : ∀ w ∈ wsL_law0_r3, w ∈ lw_tbl := tin_r wsL_law0_r3 [104, 105, 107, 108, 109, 110, 137, 138, 139, 140, 143, 145, 147, 150, 152, 154, 156, 158, 141, 750, 751, 752, 753, 757] rfl
set_option maxRecDepth 100000 in
theorem wsL_law0_r4_in : ∀ w ∈ wsL_law0_r4, w ∈ lw_tbl := tin_r wsL_law0_r4 [761, 762, 763, 764, 822, 765, 766, 767, 768, 769, 770, 771, 772, 773, 774, 775, 754, 776, 258, 259, 37, 260, 261, 263] rfl
set_option maxRecDepth 100000 in
theorem wsL_law0_r5_in : ∀ w ∈ wsL_law0_r5, w ∈ lw_tbl := tin_r wsL_law0_r5 [264, 265, 266, 270, 46, 342, 47, 267, 268, 269, 358, 359, 360, 361, 827, 828, 829, 830, 755, 758, 831, 832, 833, 834] rfl
set_option maxRecDepth 100000 in
theorem wsL_law0_r6_in : ∀ w ∈ wsL_law0_r6, w ∈ lw_tbl := tin_r wsL_law0_r6 [835, 836, 837, 839, 16, 840, 362, 363, 364, 365, 366, 367, 368, 841, 842, 843, 844, 370, 371, 372, 373, 397, 398, 399] rfl
set_option maxRecDepth 100000 in
theorem wsL_law0_r7_in : ∀ w ∈ wsL_law0_r7, w ∈ lw_tbl := tin_r wsL_law0_r7 [400, 401, 403, 1, 404, 405, 48, 845, 846, 847, 848, 849, 851, 17, 852, 823, 824, 825, 826, 418, 419, 420, 421, 422] rfl
set_option maxRecDepth 100000 in
theorem wsL_law0_r8_in : ∀ w ∈ wsL_law0_r8, w ∈ lw_tbl := tin_r wsL_law0_r8 [423, 424, 425, 426, 427, 228, 229, 230, 853, 854, 855, 856, 857, 859, 18, 860, 429, 430, 431, 432, 433, 434, 435, 231] rfl
set_option maxRecDepth 100000 in
theorem wsL_law0_r9_in : ∀ w ∈ wsL_law0_r9, w ∈ lw_tbl := tin_r wsL_law0_r9 [232, 233, 234, 861, 862, 863, 864, 436, 437, 438, 439, 440, 441, 442, 865, 866, 867, 868, 443, 444, 445, 446, 447, 448] rfl
set_option maxRecDepth 100000 in
theorem wsL_law0_r10_in : ∀ w ∈ wsL_law0_r10, w ∈ lw_tbl := tin_r wsL_law0_r10 [449, 869, 870, 871, 872, 450, 451, 452, 453, 454, 455, 456, 873, 874, 875, 876, 457, 458, 459, 460, 461, 462, 463, 467] rfl
set_option maxRecDepth 100000 in
theorem wsL_law0_r11_in : ∀ w ∈ wsL_law0_r11, w ∈ lw_tbl := tin_r wsL_law0_r11 [469, 2, 470, 472, 473, 474, 475, 877, 878, 879, 880, 759, 881, 883, 19, 884, 476, 477, 478, 480, 481, 482, 483, 489] rfl
set_option maxRecDepth 100000 in
theorem wsL_law0_r12_in : ∀ w ∈ wsL_law0_r12, w ∈ lw_tbl := tin_r wsL_law0_r12 [51, 484, 486, 3, 487, 505, 506, 507, 508, 510, 511, 512, 513, 514, 515, 516, 517, 885, 886, 887, 888, 889, 891, 20] rfl
set_option maxRecDepth 100000 in
theorem wsL_law0_r13_in : ∀ w ∈ wsL_law0_r13, w ∈ lw_tbl := tin_r wsL_law0_r13 [892, 518, 519, 520, 521, 522, 523, 524, 527, 529, 4, 530, 893, 894, 895, 896, 756, 531, 532, 533, 534, 535, 536, 537] rfl
set_option maxRecDepth 100000 in
theorem wsL_law0_r14_in : ∀ w ∈ wsL_law0_r14, w ∈ lw_tbl := tin_r wsL_law0_r14 [541, 542, 52, 543, 544, 545, 546, 539, 547, 549, 5, 550, 551, 553, 6, 554, 897, 898, 899, 900, 901, 902, 903, 904] rfl
set_option maxRecDepth 100000 in
theorem wsL_law0_r15_in : ∀ w ∈ wsL_law0_r15, w ∈ lw_tbl := tin_r wsL_law0_r15 [905, 906, 907, 909, 21, 910, 555, 556, 557, 558, 559, 560, 561, 911, 912, 913, 914, 564, 565, 566, 567, 568, 569, 570] rfl
set_option maxRecDepth 100000 in
theorem wsL_law0_r16_in : ∀ w ∈ wsL_law0_r16, w ∈ lw_tbl := tin_r wsL_law0_r16 [915, 916, 917, 918, 919, 921, 22, 922, 923, 925, 23, 926, 571, 572, 573, 574, 575, 576, 577, 927, 928, 929, 930, 931] rfl
set_option maxRecDepth 100000 in
theorem wsL_law0_r17_in : ∀ w ∈ wsL_law0_r17, w ∈ lw_tbl := tin_r wsL_law0_r17 [933, 24, 934, 579, 580, 581, 582, 583, 584, 585, 239, 240, 241, 242, 935, 936, 937, 938, 939, 941, 25, 942, 586, 587] rfl
set_option maxRecDepth 100000 in
theorem wsL_law0_r18_in : ∀ w ∈ wsL_law0_r18, w ∈ lw_tbl := tin_r wsL_law0_r18 [588, 589, 590, 591, 592, 594, 595, 596, 597, 598, 600, 7, 601, 943, 944, 945, 946, 602, 603, 604, 605, 606, 607, 608] rfl
set_option maxRecDepth 100000 in
theorem wsL_law0_r19_in : ∀ w ∈ wsL_law0_r19, w ∈ lw_tbl := tin_r wsL_law0_r19 [947, 948, 949, 950, 609, 610, 611, 612, 613, 614, 615, 616, 617, 618, 619, 951, 952, 953, 954, 620, 621, 622, 623, 624] rfl
set_option maxRecDepth 100000 in
theorem wsL_law0_r20_in : ∀ w ∈ wsL_law0_r20, w ∈ lw_tbl := tin_r wsL_law0_r20 [625, 626, 627, 628, 629, 631, 633, 8, 634, 635, 636, 637, 638, 640, 641, 642, 955, 956, 957, 958, 959, 961, 26, 962] rfl
set_option maxRecDepth 100000 in
theorem wsL_law0_r21_in : ∀ w ∈ wsL_law0_r21, w ∈ lw_tbl := tin_r wsL_law0_r21 [963, 965, 27, 966, 967, 968, 969, 643, 644, 645, 646, 647, 648, 649, 650, 652, 9, 653, 970, 971, 972, 973, 655, 656] rfl
set_option maxRecDepth 100000 in
theorem wsL_law0_r22_in : ∀ w ∈ wsL_law0_r22, w ∈ lw_tbl := tin_r wsL_law0_r22 [657, 658, 659, 660, 661, 664, 666, 10, 667, 668, 669, 670, 671, 672, 673, 674, 675, 676, 677, 679, 11, 680, 248, 249] rfl
set_option maxRecDepth 100000 in
theorem wsL_law0_r23_in : ∀ w ∈ wsL_law0_r23, w ∈ lw_tbl := tin_r wsL_law0_r23 [53, 250, 251, 252, 253, 681, 683, 12, 684, 685, 686, 687, 688, 689, 691, 13, 692, 694, 696, 14, 697, 698, 700, 15] rfl
set_option maxRecDepth 100000 in
theorem wsL_law0_r24_in : ∀ w ∈ wsL_law0_r24, w ∈ lw_tbl := tin_r wsL_law0_r24 [701, 974, 975, 976, 977, 978, 980, 28, 981, 982, 984, 29, 985, 760, 986, 988, 30, 989, 990, 992, 31, 993, 994, 996] rfl
set_option maxRecDepth 100000 in
theorem wsL_law0_r25_in : ∀ w ∈ wsL_law0_r25, w ∈ lw_tbl := tin_r wsL_law0_r25 [32, 997, 998, 1000, 33, 1001, 1002, 1004, 34, 1005, 1006, 1007, 1008, 1009, 1011, 35, 1012, 1013, 1015, 36, 1016, 203, 204, 205] rfl
set_option maxRecDepth 100000 in
theorem wsL_law0_r26_in : ∀ w ∈ wsL_law0_r26, w ∈ lw_tbl := tin_r wsL_law0_r26 [206, 1017, 1018, 1019, 1020, 207, 208, 209, 210, 1021, 1022, 1023, 1024, 211, 212, 213, 214, 1025, 1026, 1027, 1028, 702, 703, 704] rfl
set_option maxRecDepth 100000 in
theorem wsL_law0_r27_in : ∀ w ∈ wsL_law0_r27, w ∈ lw_tbl := tin_r wsL_law0_r27 [705, 706, 707, 708, 254, 255, 256, 257, 1029, 1030, 1031, 1032, 1033, 215, 216, 217, 218, 219, 220, 221, 222, 1034, 1035, 1036] rfl
set_option maxRecDepth 100000 in
theorem wsL_law0_r28_in : ∀ w ∈ wsL_law0_r28, w ∈ lw_tbl := tin_r wsL_law0_r28 [1037, 709, 710, 711, 712, 713, 714, 715, 1038, 1039, 1040, 1041, 223, 224, 225, 226, 227, 1042, 1043, 1044, 1045, 1046, 1047, 716] rfl
set_option maxRecDepth 100000 in
theorem wsL_law0_r29_in : ∀ w ∈ wsL_law0_r29, w ∈ lw_tbl := tin_r wsL_law0_r29 [717, 718, 719, 733, 734, 735, 736, 737, 54, 1048, 1049, 1050, 1051, 740, 741, 742, 743, 744, 745, 746, 747, 1052, 1053, 1054] rfl
set_option maxRecDepth 100000 in
theorem wsL_law0_r30_in : ∀ w ∈ wsL_law0_r30, w ∈ lw_tbl := tin_r wsL_law0_r30 [1055, 235, 236, 237, 238, 243, 244, 245, 246, 1056, 1057, 1058, 1059] rfl
set_option maxRecDepth 100000 in
theorem wsX30_inT : ∀ w ∈ wsX30, w ∈ lw_tbl := tin_r wsX30 [186, 188, 190, 192, 194, 196, 198, 200] rfl
set_option maxRecDepth 100000 in
theorem wsX40_inT : ∀ w ∈ wsX40, w ∈ lw_tbl := tin_r wsX40 [777, 779, 781, 783, 785, 787, 789, 791, 793, 795, 797, 799, 801, 803, 805, 807, 809, 811, 813, 815, 817, 819] rfl
set_option maxRecDepth 100000 in
theorem wsX20_inT : ∀ w ∈ wsX20, w ∈ lw_tbl := tin_r wsX20 [77, 79, 81, 83] rfl
set_option maxRecDepth 100000 in
theorem wsX00_inT : ∀ w ∈ wsX00, w ∈ lw_tbl := tin_r wsX00 [111, 113, 115, 117, 119, 121, 123, 125, 127, 129, 131, 133] rfl
set_option maxRecDepth 100000 in
theorem wsX10_inT : ∀ w ∈ wsX10, w ∈ lw_tbl := tin_r wsX10 [159, 161, 163, 165, 167, 169, 171, 173, 175] rfl

def gp_ : List Nat → List Cond → List Cond → List Cond
  | [], _, _ => []
  | 0 :: ks, big, _ => gp_ ks big big
  | (k + 1) :: ks, big, cur => match cur.drop k with
    | [] => []
    | c :: cs => c :: gp_ ks big cs
theorem gp_mem {big : List Cond} : ∀ (ks : List Nat) (cur : List Cond), (∀ w ∈ cur, w ∈ big) → ∀ w ∈ gp_ ks big cur, w ∈ big := by
  intro ks
  induction ks with
  | nil => intro cur _ w hw; simp only [gp_] at hw; exact absurd hw List.not_mem_nil
  | cons k ks ih =>
    intro cur hc w hw
    cases k with
    | zero => simp only [gp_] at hw; exact ih big (fun _ h => h) w hw
    | succ k =>
      simp only [gp_] at hw
      cases he : cur.drop k with
      | nil => rw [he] at hw; exact absurd hw List.not_mem_nil
      | cons c cs =>
        rw [he] at hw
        have hsub : ∀ z ∈ c :: cs, z ∈ big := fun z hz => hc z (List.mem_of_mem_drop (he ▸ hz))
        rcases List.mem_cons.mp hw with h | h
        · exact h ▸ hsub c List.mem_cons_self
        · exact ih cs (fun z hz => hsub z (List.mem_cons_of_mem _ hz)) w h
theorem goodIn_g {big : List Cond} (ws : List Cond) (ks : List Nat) (hp : ws = gp_ ks big big) (h : ws.all goodWord = true) : GoodIn big ws := by
  intro w hw
  exact ⟨gp_mem ks big (fun _ h => h) w (hp ▸ hw), good_of_word (List.all_eq_true.mp h w hw)⟩
