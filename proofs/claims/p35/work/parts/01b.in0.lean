theorem tin_r {big : List Cond} (ws : List Cond) (ps : List Nat) (hp : ws = ps.filterMap (fun i => big[i]?)) : ∀ w ∈ ws, w ∈ big := by
  intro w hw
  rw [hp] at hw
  obtain ⟨i, -, hi⟩ := List.mem_filterMap.mp hw
  exact List.mem_of_getElem? hi
def gp_ : List Nat → List Cond → List Cond → List Cond
  | [], _, _ => []
  | 0 :: ks, big, _ => gp_ ks big big
  | (k + 1) :: ks, big, cur => match cur.drop k with
    | [] => []
    | c :: cs => c :: gp_ ks big cs
theorem gp_mem {big : List Cond} : ∀ (ks : List Nat) (cur : List Cond), (∀ w ∈ cur, w ∈ big) → ∀ w ∈ gp_ ks big cur, w ∈ big := by
  intro ks
  induction ks with
  | nil => intro cur _ w hw; simp only [gp_] at hw; exact absurd hw List.not_mem_nil
  | cons k ks ih =>
    intro cur hc w hw
    cases k with
    | zero => simp only [gp_] at hw; exact ih big (fun _ h => h) w hw
    | succ k =>
      simp only [gp_] at hw
      cases he : cur.drop k with
      | nil => rw [he] at hw; exact absurd hw List.not_mem_nil
      | cons c cs =>
        rw [he] at hw
        have hsub : ∀ z ∈ c :: cs, z ∈ big := fun z hz => hc z (List.mem_of_mem_drop (he ▸ hz))
        rcases List.mem_cons.mp hw with h | h
        · exact h ▸ hsub c List.mem_cons_self
        · exact ih cs (fun z hz => hsub z (List.mem_cons_of_mem _ hz)) w h
theorem goodIn_g {big : List Cond} (ws : List Cond) (ks : List Nat) (hp : ws = gp_ ks big big) (h : ws.all goodWord = true) : GoodIn big ws := by
  intro w hw
  exact ⟨gp_mem ks big (fun _ h => h) w (hp ▸ hw), good_of_word (List.all_eq_true.mp h w hw)⟩
theorem tin_g {big : List Cond} (ws : List Cond) (ks : List Nat) (hp : ws = gp_ ks big big) : ∀ w ∈ ws, w ∈ big := fun w hw => gp_mem ks big (fun _ h => h) w (hp ▸ hw)
set_option maxRecDepth 100000 in
theorem wsL_law0_r1_in : ∀ w ∈ wsL_law0_r1, w ∈ lw_tbl := tin_g wsL_law0_r1 [34, 1, 0, 18, 47, 0, 36, 1, 1, 1, 1, 1, 1, 115, 1, 0, 44, 115, 1, 1, 0, 46, 1, 0, 19, 143, 1, 1, 0, 66] rfl
set_option maxRecDepth 100000 in
theorem wsL_law0_r2_in : ∀ w ∈ wsL_law0_r2, w ∈ lw_tbl := tin_g wsL_law0_r2 [20, 95, 0, 21, 28, 1, 1, 1, 1, 1, 1, 13, 1, 1, 1, 2, 2, 2, 2, 2, 2, 1, 2, 1, 1] rfl
set_option maxRecDepth 100000 in
theorem wsL_law0_r3_in : ∀ w ∈ wsL_law0_r3, w ∈ lw_tbl := tin_g wsL_law0_r3 [89, 27, 1, 1, 1, 3, 2, 2, 3, 2, 2, 2, 2, 0, 120, 74, 1, 0, 17, 179, 1, 1, 1, 1, 1, 1] rfl
set_option maxRecDepth 100000 in
theorem wsL_law0_r4_in : ∀ w ∈ wsL_law0_r4, w ∈ lw_tbl := tin_g wsL_law0_r4 [203, 1, 1, 96, 1, 1, 1, 1, 1, 1, 4, 0, 29, 299, 0, 30, 278, 1, 1, 34, 1, 1, 1, 1, 1, 1] rfl
set_option maxRecDepth 100000 in
theorem wsL_law0_r5_in : ∀ w ∈ wsL_law0_r5, w ∈ lw_tbl := tin_g wsL_law0_r5 [351, 2, 1, 1, 1, 1, 2, 0, 2, 358, 1, 0, 25, 349, 1, 1, 1, 1, 1, 1, 2, 1, 1, 1, 1, 1] rfl
set_option maxRecDepth 100000 in
theorem wsL_law0_r6_in : ∀ w ∈ wsL_law0_r6, w ∈ lw_tbl := tin_g wsL_law0_r6 [388, 1, 1, 1, 1, 1, 1, 1, 1, 1, 1, 1, 1, 1, 1, 1, 1, 1, 1, 1, 1, 1, 1, 1] rfl
set_option maxRecDepth 100000 in
theorem wsL_law0_r7_in : ∀ w ∈ wsL_law0_r7, w ∈ lw_tbl := tin_g wsL_law0_r7 [415, 2, 0, 3, 415, 2, 1, 1, 1, 1, 1, 1, 1, 6, 0, 31, 397, 2, 0, 4, 427, 18, 1, 1, 1, 2, 1] rfl
set_option maxRecDepth 100000 in
theorem wsL_law0_r8_in : ∀ w ∈ wsL_law0_r8, w ∈ lw_tbl := tin_g wsL_law0_r8 [456, 1, 1, 1, 1, 1, 1, 1, 1, 1, 3, 2, 0, 5, 466, 1, 1, 1, 1, 4, 1, 0, 32, 449, 1, 1] rfl
set_option maxRecDepth 100000 in
theorem wsL_law0_r9_in : ∀ w ∈ wsL_law0_r9, w ∈ lw_tbl := tin_g wsL_law0_r9 [484, 0, 477, 8, 2, 0, 6, 482, 1, 2, 0, 7, 485, 1, 1, 1, 1, 3, 1, 1, 1, 1, 1, 1, 1, 2, 1] rfl
set_option maxRecDepth 100000 in
theorem wsL_law0_r10_in : ∀ w ∈ wsL_law0_r10, w ∈ lw_tbl := tin_g wsL_law0_r10 [510, 1, 1, 1, 1, 1, 1, 1, 1, 1, 2, 1, 1, 1, 1, 2, 0, 8, 520, 1, 1, 1, 1, 1, 1] rfl
set_option maxRecDepth 100000 in
theorem wsL_law0_r11_in : ∀ w ∈ wsL_law0_r11, w ∈ lw_tbl := tin_g wsL_law0_r11 [535, 1, 1, 1, 1, 1, 1, 1, 1, 1, 1, 1, 1, 2, 2, 0, 9, 543, 1, 1, 1, 1, 2, 1, 1] rfl
set_option maxRecDepth 100000 in
theorem wsL_law0_r12_in : ∀ w ∈ wsL_law0_r12, w ∈ lw_tbl := tin_g wsL_law0_r12 [561, 1, 1, 1, 1, 2, 0, 10, 558, 2, 1, 1, 1, 3, 2, 0, 11, 568, 1, 1, 1, 1, 1, 1, 1, 1] rfl
set_option maxRecDepth 100000 in
theorem wsL_law0_r13_in : ∀ w ∈ wsL_law0_r13, w ∈ lw_tbl := tin_g wsL_law0_r13 [588, 1, 2, 0, 12, 580, 1, 1, 0, 33, 562, 1, 1, 1, 2, 2, 0, 13, 590, 1, 1, 1, 1, 1, 2, 0, 14, 597] rfl
set_option maxRecDepth 100000 in
theorem wsL_law0_r14_in : ∀ w ∈ wsL_law0_r14, w ∈ lw_tbl := tin_g wsL_law0_r14 [613, 2, 0, 15, 601, 1, 2, 0, 16, 604, 1, 1, 1, 1, 1, 1, 1, 1, 1, 1, 1, 1, 7, 1, 1, 9] rfl
set_option maxRecDepth 100000 in
theorem wsL_law0_r15_in : ∀ w ∈ wsL_law0_r15, w ∈ lw_tbl := tin_g wsL_law0_r15 [651, 1, 23, 5, 0, 633, 1, 1, 7, 1, 1, 1, 1, 1, 1, 1, 4, 1, 1, 1, 1, 1, 1, 1, 1] rfl
set_option maxRecDepth 100000 in
theorem wsL_law0_r16_in : ∀ w ∈ wsL_law0_r16, w ∈ lw_tbl := tin_g wsL_law0_r16 [662, 1, 1, 1, 1, 1, 1, 1, 1, 1, 0, 28, 646, 2, 1, 1, 1, 2, 1, 1, 1, 1, 1, 1, 1] rfl
set_option maxRecDepth 100000 in
theorem wsL_law0_r17_in : ∀ w ∈ wsL_law0_r17, w ∈ lw_tbl := tin_g wsL_law0_r17 [190, 1, 1, 1, 443, 1, 1, 0, 182, 1, 1, 1, 511, 1, 1, 0, 692, 1, 1, 1, 0, 689, 1, 1, 0, 186, 1, 1] rfl
set_option maxRecDepth 100000 in
theorem wsL_law0_r18_in : ∀ w ∈ wsL_law0_r18, w ∈ lw_tbl := tin_g wsL_law0_r18 [189] rfl
set_option maxRecDepth 100000 in
theorem wsX30_inT : ∀ w ∈ wsX30, w ∈ lw_tbl := tin_g wsX30 [165, 2, 2, 2, 2, 2, 2, 2] rfl
set_option maxRecDepth 100000 in
theorem wsX20_inT : ∀ w ∈ wsX20, w ∈ lw_tbl := tin_g wsX20 [56, 2, 2, 2] rfl
set_option maxRecDepth 100000 in
theorem wsX00_inT : ∀ w ∈ wsX00, w ∈ lw_tbl := tin_g wsX00 [90, 2, 2, 2, 2, 2, 2, 2, 2, 2, 2, 2] rfl
set_option maxRecDepth 100000 in
theorem wsX10_inT : ∀ w ∈ wsX10, w ∈ lw_tbl := tin_g wsX10 [138, 2, 2, 2, 2, 2, 2, 2, 2] rfl

