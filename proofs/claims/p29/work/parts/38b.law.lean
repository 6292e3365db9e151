/-! laid by wip/gen -/
section LWC
set_option maxHeartbeats 8000000 in
set_option maxRecDepth 100000 in
theorem law_c16 {p : Program} {e : Env} {s : State} {m : MethodId} {below : List Frame} {meth : Method} {c : Code} (l : Launch) (hst : l.stackTraces = false) {b N : Nat} {xs : Nat → Int32} (hN : N ≤ 2560) (C0 : lw_At p s m meth c b N xs) (g : gE) (L : Nat → Nat) (hJ : wj 125 L (fun q : Nat => s.heap.size ≤ q)) (hK : va_K g.1 vwCl (tysC g) s) (hE : EE SS (fun q : Nat => s.heap.size ≤ q) s) {t : Nat} (ht : 5 * t + 5 ≤ N) {x y : St} {ch : Int64} {nb nn hr : Nat} {ro : Nat → va_E} (hR : R2 x y ch nb nn hr t) (ho : outOK g ro) {cl sl : Nat} (hcl : cl + 100 ≤ 603072) (hsl : sl + 1000 ≤ 7215210) {H : Heap} {locs : List Loc} (hP : va_P g.1 vwCl (wl 125 L (cw g L x (mw g L y ch ro))) H) (hS : va_S (fun q : Nat => s.heap.size ≤ q) s.heap H locs) {ls : Array Slot} (hl : lv_has ls 9 [(0, .ref b), (1, .ref (L 0)), (2, .ref (L 106)), (3, .ref (L 123)), (4, .ref (L 124)), (5, .int (nI (5 * t)))]) (hnext : ∀ (x2 y2 : St) (ch2 : Int64) (nb2 nn2 hr2 : Nat) (ro2 : Nat → va_E) (cl2 sl2 : Nat) (H : Heap) (locs : List Loc) (ls : Array Slot), R2 x2 y2 ch2 nb2 nn2 hr2 (t + 1) → outOK g ro2 → cl2 ≤ cl + 8 → sl2 ≤ sl + 48 → va_P g.1 vwCl (wl 125 L (cw g L x2 (mw g L y2 ch2 ro2))) H → va_S (fun q : Nat => s.heap.size ≤ q) s.heap H locs → lv_has ls 9 [(0, .ref b), (1, .ref (L 0)), (2, .ref (L 106)), (3, .ref (L 123)), (4, .ref (L 124)), (5, .int (nI (5 * t)))] → W p l e room_1 s m #[Value.ref b] below meth c H locs cl2 sl2 (lw_Z below #[Value.ref b] s) (F0 m 1264 ls [])) : W p l e room_1 s m #[Value.ref b] below meth c H locs cl sl (lw_Z below #[Value.ref b] s) (F0 m 804 ls []) := by
  obtain ⟨hx, hb, hr9, hml, hown, hts0, hX, hbl, hlocks, hgv⟩ := id C0
  have hown : s.vm.findClass RL = some m.cls := hown
  have hts : ∀ w ∈ wsL_law, w.before #[Value.ref b] s = true := fun w h => hts0 w (wsL_law_in w h)
  have hbA : ¬ (fun q : Nat => s.heap.size ≤ q) b := Nat.not_le.mpr hbl
  have hn : 125 ≤ 125 := Nat.le_refl _
  have hG := hR.gi
  have hnb := hG.nb6
  have hx0 := hG.x0
  have hnn := hG.nn40
  have hx1 := hG.x1
  have hsh := hG.sh
  have hrk := hG.rk
  have hbz := hR.b14
  obtain ⟨cnt, hcn, hx4⟩ := hR.cnt
  obtain ⟨⟨f, ho1⟩, ⟨fd, ho2⟩⟩ := id ho
  have htc : ∀ b, b < 6 → (fun b => (x 19 b 0).toNatClampNeg) b ≤ 1920 := fun b hb => hG.tc hb
  have hx19 : ∀ b, b < 6 → x 19 b 0 = nI ((fun b => (x 19 b 0).toNatClampNeg) b) := fun b hb => hG.x19 hb
  generalize (fun b => (x 19 b 0).toNatClampNeg) = tcs at htc hx19
  have hhr := hR.hr
  have hyh := hR.y1
  obtain ⟨a1, ea1⟩ : ∃ a, a = xs (nI (5 * t) + 1).toNatClampNeg := ⟨_, rfl⟩
  obtain ⟨a2, ea2⟩ : ∃ a, a = xs (nI (5 * t) + 2).toNatClampNeg := ⟨_, rfl⟩
  obtain ⟨a3, ea3⟩ : ∃ a, a = xs (nI (5 * t) + 3).toNatClampNeg := ⟨_, rfl⟩
  obtain ⟨a4, ea4⟩ : ∃ a, a = xs (nI (5 * t) + 4).toNatClampNeg := ⟨_, rfl⟩
  have ht9 : t < 512 := by omega
  refine lv_aload_n hx hb dL_law_804 rfl (lv_at hl 1 rfl) ?_
  refine lv_aload_n hx hb dL_law_805 rfl (lv_at hl 0 rfl) ?_
  refine lv_iload hx hb dL_law_806 (lv_at hl 5 rfl) ?_
  refine lv_iconst (v := 1) hx hb dL_law_808 (by decide) ?_
  refine lv_iadd hx hb dL_law_809 ?_
  refine va_sld hx hb hX hbl hbA hS (i := (nI (5 * t)) + 1) (by rw [show nI (5 * t) + 1 = nI (5 * t + 1) from nI_add _ 1]; exact vp_in_nI (by omega) (by omega)) dL_law_810 ?_
  rw [← ea1]
  refine lv_aload_n hx hb dL_law_811 rfl (lv_at hl 0 rfl) ?_
  refine lv_iload hx hb dL_law_812 (lv_at hl 5 rfl) ?_
  refine lv_iconst (v := 2) hx hb dL_law_814 (by decide) ?_
  refine lv_iadd hx hb dL_law_815 ?_
  refine va_sld hx hb hX hbl hbA hS (i := (nI (5 * t)) + 2) (by rw [show nI (5 * t) + 2 = nI (5 * t + 2) from nI_add _ 2]; exact vp_in_nI (by omega) (by omega)) dL_law_816 ?_
  rw [← ea2]
  refine lv_aload_n hx hb dL_law_817 rfl (lv_at hl 3 rfl) ?_
  refine wx_calli (vx_runSW (As := [.ref (L 0), .int a1, .int a2, .ref (L 123)]) (rest := []) ⟨hx, hb, hml, hown, hts⟩ (kl_pass l hst g s.heap.size 125 L (by omega) x (mw g L y ch ro) nb hnb hx0 hsh cnt hcn hx4 a1 a2 f ((mw_ge (by decide)).trans ho1)) (vx_cwSW 4 hts gL_law_L_pass rfl rfl rfl (by decide +kernel) ⟨Nat.le_of_ble_eq_true rfl, Nat.le_of_ble_eq_true rfl⟩) (PW.preS3 (Nat.le_refl _) hJ hK hE hP hS) rfl rfl hl.1 rfl (lv_room (Nat.le_of_ble_eq_true rfl)) dL_law_818 ⟨(by show _ ≤ 603072; omega), (by show _ ≤ 7215210; omega)⟩) hS (fun r818 u818 H locs h818 hP hS => ?_)
  obtain ⟨ro2, e9, hc⟩ := c_pass (nb := nb) (nn := nn) h818
  rw [e9, cw_mw] at hP
  refine lv_istore (lv' := [(6, .int r818), (0, .ref b), (1, .ref (L 0)), (2, .ref (L 106)), (3, .ref (L 123)), (4, .ref (L 124)), (5, .int (nI (5 * t)))]) hx hb dL_law_821 hl (by decide) rfl (fun ls hl => ?_)
  refine lv_aload_n hx hb dL_law_823 rfl (lv_at hl 3 rfl) ?_
  refine lv_aload_n hx hb dL_law_824 rfl (lv_at hl 1 rfl) ?_
  refine lv_iload hx hb dL_law_825 (lv_at hl 6 rfl) ?_
  refine lv_iconst (v := 1) hx hb dL_law_827 (by decide) ?_
  refine lv_iadd hx hb dL_law_828 ?_
  refine va_sld hx hb hX hbl hbA hS (i := (nI (5 * t)) + 1) (by rw [show nI (5 * t) + 1 = nI (5 * t + 1) from nI_add _ 1]; exact vp_in_nI (by omega) (by omega)) dL_law_829 ?_
  rw [← ea1]
  refine lv_aload_n hx hb dL_law_830 rfl (lv_at hl 1 rfl) ?_
  refine lv_iload hx hb dL_law_831 (lv_at hl 6 rfl) ?_
  refine lv_iconst (v := 2) hx hb dL_law_833 (by decide) ?_
  refine lv_iadd hx hb dL_law_834 ?_
  refine va_sld hx hb hX hbl hbA hS (i := (nI (5 * t)) + 2) (by rw [show nI (5 * t) + 2 = nI (5 * t + 2) from nI_add _ 2]; exact vp_in_nI (by omega) (by omega)) dL_law_835 ?_
  rw [← ea2]
  refine wx_calli (va_runV (As := [.int a1, .int a2]) (rest := []) ⟨hx, hb, hml, hown, hts⟩ (m_pass l hst g s.heap.size 125 L (by omega) y ch (cw g L u818.1 ro2) nb nn hR.mi hr hhr hyh a1 a2) (cwV 2 hts gL_law_X4_pass rfl rfl rfl (by decide +kernel) ⟨Nat.le_of_ble_eq_true rfl, Nat.le_of_ble_eq_true rfl⟩) (PW.preV3 (Nat.le_refl _) hJ hK hE hP hS (ci := 6) rfl (by omega) mw_o) rfl rfl hl.1 rfl (lv_room (Nat.le_of_ble_eq_true rfl)) dL_law_836 ⟨(by show _ ≤ 603072; omega), (by show _ ≤ 7215210; omega)⟩) hS (fun r836 u836 H locs h836 hP hS => ?_)
  obtain ⟨⟨nb2, nn2, hr2, hR2⟩, ho9⟩ := s_pass (f := f) (r2 := r836) ht9 hR ho hcn hx4 hc h836
  refine lv_istore (lv' := [(7, .int r836), (6, .int r818), (0, .ref b), (1, .ref (L 0)), (2, .ref (L 106)), (3, .ref (L 123)), (4, .ref (L 124)), (5, .int (nI (5 * t)))]) hx hb dL_law_839 hl (by decide) rfl (fun ls hl => ?_)
  refine lv_goto (tgt := 1264) hx hb dL_law_841 (by decide) ?_
  exact hnext _ _ _ _ _ _ _ _ _ _ _ _ hR2 ho9 (by omega) (by omega) (by rw [cw_mw]; exact hP) hS (lv_sub hl [2, 3, 4, 5, 6, 7] rfl)

set_option maxHeartbeats 8000000 in
set_option maxRecDepth 100000 in
theorem law_c17 {p : Program} {e : Env} {s : State} {m : MethodId} {below : List Frame} {meth : Method} {c : Code} (l : Launch) (hst : l.stackTraces = false) {b N : Nat} {xs : Nat → Int32} (hN : N ≤ 2560) (C0 : lw_At p s m meth c b N xs) (g : gE) (L : Nat → Nat) (hJ : wj 125 L (fun q : Nat => s.heap.size ≤ q)) (hK : va_K g.1 vwCl (tysC g) s) (hE : EE SS (fun q : Nat => s.heap.size ≤ q) s) {t : Nat} (ht : 5 * t + 5 ≤ N) {x y : St} {ch : Int64} {nb nn hr : Nat} {ro : Nat → va_E} (hR : R2 x y ch nb nn hr t) (ho : outOK g ro) {cl sl : Nat} (hcl : cl + 100 ≤ 603072) (hsl : sl + 1000 ≤ 7215210) {H : Heap} {locs : List Loc} (hP : va_P g.1 vwCl (wl 125 L (cw g L x (mw g L y ch ro))) H) (hS : va_S (fun q : Nat => s.heap.size ≤ q) s.heap H locs) {ls : Array Slot} (hl : lv_has ls 9 [(0, .ref b), (1, .ref (L 0)), (2, .ref (L 106)), (3, .ref (L 123)), (4, .ref (L 124)), (5, .int (nI (5 * t)))]) (hnext : ∀ (x2 y2 : St) (ch2 : Int64) (nb2 nn2 hr2 : Nat) (ro2 : Nat → va_E) (cl2 sl2 : Nat) (H : Heap) (locs : List Loc) (ls : Array Slot), R2 x2 y2 ch2 nb2 nn2 hr2 (t + 1) → outOK g ro2 → cl2 ≤ cl + 8 → sl2 ≤ sl + 48 → va_P g.1 vwCl (wl 125 L (cw g L x2 (mw g L y2 ch2 ro2))) H → va_S (fun q : Nat => s.heap.size ≤ q) s.heap H locs → lv_has ls 9 [(0, .ref b), (1, .ref (L 0)), (2, .ref (L 106)), (3, .ref (L 123)), (4, .ref (L 124)), (5, .int (nI (5 * t)))] → W p l e room_1 s m #[Value.ref b] below meth c H locs cl2 sl2 (lw_Z below #[Value.ref b] s) (F0 m 1264 ls [])) : W p l e room_1 s m #[Value.ref b] below meth c H locs cl sl (lw_Z below #[Value.ref b] s) (F0 m 844 ls []) := by
  obtain ⟨hx, hb, hr9, hml, hown, hts0, hX, hbl, hlocks, hgv⟩ := id C0
  have hown : s.vm.findClass RL = some m.cls := hown
  have hts : ∀ w ∈ wsL_law, w.before #[Value.ref b] s = true := fun w h => hts0 w (wsL_law_in w h)
  have hbA : ¬ (fun q : Nat => s.heap.size ≤ q) b := Nat.not_le.mpr hbl
  have hn : 125 ≤ 125 := Nat.le_refl _
  have hG := hR.gi
  have hnb := hG.nb6
  have hx0 := hG.x0
  have hnn := hG.nn40
  have hx1 := hG.x1
  have hsh := hG.sh
  have hrk := hG.rk
  have hbz := hR.b14
  obtain ⟨cnt, hcn, hx4⟩ := hR.cnt
  obtain ⟨⟨f, ho1⟩, ⟨fd, ho2⟩⟩ := id ho
  have htc : ∀ b, b < 6 → (fun b => (x 19 b 0).toNatClampNeg) b ≤ 1920 := fun b hb => hG.tc hb
  have hx19 : ∀ b, b < 6 → x 19 b 0 = nI ((fun b => (x 19 b 0).toNatClampNeg) b) := fun b hb => hG.x19 hb
  generalize (fun b => (x 19 b 0).toNatClampNeg) = tcs at htc hx19
  have hhr := hR.hr
  have hyh := hR.y1
  obtain ⟨a1, ea1⟩ : ∃ a, a = xs (nI (5 * t) + 1).toNatClampNeg := ⟨_, rfl⟩
  obtain ⟨a2, ea2⟩ : ∃ a, a = xs (nI (5 * t) + 2).toNatClampNeg := ⟨_, rfl⟩
  obtain ⟨a3, ea3⟩ : ∃ a, a = xs (nI (5 * t) + 3).toNatClampNeg := ⟨_, rfl⟩
  obtain ⟨a4, ea4⟩ : ∃ a, a = xs (nI (5 * t) + 4).toNatClampNeg := ⟨_, rfl⟩
  have ht9 : t < 512 := by omega
  refine lv_aload_n hx hb dL_law_844 rfl (lv_at hl 1 rfl) ?_
  refine lv_aload_n hx hb dL_law_845 rfl (lv_at hl 0 rfl) ?_
  refine lv_iload hx hb dL_law_846 (lv_at hl 5 rfl) ?_
  refine lv_iconst (v := 1) hx hb dL_law_848 (by decide) ?_
  refine lv_iadd hx hb dL_law_849 ?_
  refine va_sld hx hb hX hbl hbA hS (i := (nI (5 * t)) + 1) (by rw [show nI (5 * t) + 1 = nI (5 * t + 1) from nI_add _ 1]; exact vp_in_nI (by omega) (by omega)) dL_law_850 ?_
  rw [← ea1]
  refine lv_aload_n hx hb dL_law_851 rfl (lv_at hl 0 rfl) ?_
  refine lv_iload hx hb dL_law_852 (lv_at hl 5 rfl) ?_
  refine lv_iconst (v := 2) hx hb dL_law_854 (by decide) ?_
  refine lv_iadd hx hb dL_law_855 ?_
  refine va_sld hx hb hX hbl hbA hS (i := (nI (5 * t)) + 2) (by rw [show nI (5 * t) + 2 = nI (5 * t + 2) from nI_add _ 2]; exact vp_in_nI (by omega) (by omega)) dL_law_856 ?_
  rw [← ea2]
  refine lv_aload_n hx hb dL_law_857 rfl (lv_at hl 3 rfl) ?_
  refine wx_calli (vx_runSW (As := [.ref (L 0), .int a1, .int a2, .ref (L 123)]) (rest := []) ⟨hx, hb, hml, hown, hts⟩ (kl_readers l hst g s.heap.size 125 L (by omega) x (mw g L y ch ro) nb hnb hx0 nn hnn hx1 a1 a2 f ((mw_ge (by decide)).trans ho1)) (vx_cwSW 4 hts gL_law_L_readers rfl rfl rfl (by decide +kernel) ⟨Nat.le_of_ble_eq_true rfl, Nat.le_of_ble_eq_true rfl⟩) (PW.preS3 (Nat.le_refl _) hJ hK hE hP hS) rfl rfl hl.1 rfl (lv_room (Nat.le_of_ble_eq_true rfl)) dL_law_858 ⟨(by show _ ≤ 603072; omega), (by show _ ≤ 7215210; omega)⟩) hS (fun r858 u858 H locs h858 hP hS => ?_)
  obtain ⟨ro2, e9, hc⟩ := c_readers (nb := nb) (nn := nn) h858
  rw [e9, cw_mw] at hP
  refine lv_istore (lv' := [(6, .int r858), (0, .ref b), (1, .ref (L 0)), (2, .ref (L 106)), (3, .ref (L 123)), (4, .ref (L 124)), (5, .int (nI (5 * t)))]) hx hb dL_law_861 hl (by decide) rfl (fun ls hl => ?_)
  refine lv_aload_n hx hb dL_law_863 rfl (lv_at hl 3 rfl) ?_
  refine lv_aload_n hx hb dL_law_864 rfl (lv_at hl 1 rfl) ?_
  refine lv_iload hx hb dL_law_865 (lv_at hl 6 rfl) ?_
  refine lv_iconst (v := 1) hx hb dL_law_867 (by decide) ?_
  refine lv_iadd hx hb dL_law_868 ?_
  refine va_sld hx hb hX hbl hbA hS (i := (nI (5 * t)) + 1) (by rw [show nI (5 * t) + 1 = nI (5 * t + 1) from nI_add _ 1]; exact vp_in_nI (by omega) (by omega)) dL_law_869 ?_
  rw [← ea1]
  refine lv_aload_n hx hb dL_law_870 rfl (lv_at hl 1 rfl) ?_
  refine lv_iload hx hb dL_law_871 (lv_at hl 6 rfl) ?_
  refine lv_iconst (v := 2) hx hb dL_law_873 (by decide) ?_
  refine lv_iadd hx hb dL_law_874 ?_
  refine va_sld hx hb hX hbl hbA hS (i := (nI (5 * t)) + 2) (by rw [show nI (5 * t) + 2 = nI (5 * t + 2) from nI_add _ 2]; exact vp_in_nI (by omega) (by omega)) dL_law_875 ?_
  rw [← ea2]
  refine wx_calli (va_runV (As := [.int a1, .int a2]) (rest := []) ⟨hx, hb, hml, hown, hts⟩ (m_readers l hst g s.heap.size 125 L (by omega) y ch (cw g L u858.1 ro2) nb nn hR.mi a1 a2) (cwV 2 hts gL_law_X4_readers rfl rfl rfl (by decide +kernel) ⟨Nat.le_of_ble_eq_true rfl, Nat.le_of_ble_eq_true rfl⟩) (PW.preV3 (Nat.le_refl _) hJ hK hE hP hS (ci := 6) rfl (by omega) mw_o) rfl rfl hl.1 rfl (lv_room (Nat.le_of_ble_eq_true rfl)) dL_law_876 ⟨(by show _ ≤ 603072; omega), (by show _ ≤ 7215210; omega)⟩) hS (fun r876 u876 H locs h876 hP hS => ?_)
  obtain ⟨⟨nb2, nn2, hr2, hR2⟩, ho9⟩ := s_readers (f := f) (r2 := r876) ht9 hR ho hc h876
  refine lv_istore (lv' := [(7, .int r876), (6, .int r858), (0, .ref b), (1, .ref (L 0)), (2, .ref (L 106)), (3, .ref (L 123)), (4, .ref (L 124)), (5, .int (nI (5 * t)))]) hx hb dL_law_879 hl (by decide) rfl (fun ls hl => ?_)
  refine lv_goto (tgt := 1264) hx hb dL_law_881 (by decide) ?_
  exact hnext _ _ _ _ _ _ _ _ _ _ _ _ hR2 ho9 (by omega) (by omega) (by rw [cw_mw]; exact hP) hS (lv_sub hl [2, 3, 4, 5, 6, 7] rfl)

set_option maxHeartbeats 8000000 in
set_option maxRecDepth 100000 in
theorem law_c18 {p : Program} {e : Env} {s : State} {m : MethodId} {below : List Frame} {meth : Method} {c : Code} (l : Launch) (hst : l.stackTraces = false) {b N : Nat} {xs : Nat → Int32} (hN : N ≤ 2560) (C0 : lw_At p s m meth c b N xs) (g : gE) (L : Nat → Nat) (hJ : wj 125 L (fun q : Nat => s.heap.size ≤ q)) (hK : va_K g.1 vwCl (tysC g) s) (hE : EE SS (fun q : Nat => s.heap.size ≤ q) s) {t : Nat} (ht : 5 * t + 5 ≤ N) {x y : St} {ch : Int64} {nb nn hr : Nat} {ro : Nat → va_E} (hR : R2 x y ch nb nn hr t) (ho : outOK g ro) {cl sl : Nat} (hcl : cl + 100 ≤ 603072) (hsl : sl + 1000 ≤ 7215210) {H : Heap} {locs : List Loc} (hP : va_P g.1 vwCl (wl 125 L (cw g L x (mw g L y ch ro))) H) (hS : va_S (fun q : Nat => s.heap.size ≤ q) s.heap H locs) {ls : Array Slot} (hl : lv_has ls 9 [(0, .ref b), (1, .ref (L 0)), (2, .ref (L 106)), (3, .ref (L 123)), (4, .ref (L 124)), (5, .int (nI (5 * t)))]) (hnext : ∀ (x2 y2 : St) (ch2 : Int64) (nb2 nn2 hr2 : Nat) (ro2 : Nat → va_E) (cl2 sl2 : Nat) (H : Heap) (locs : List Loc) (ls : Array Slot), R2 x2 y2 ch2 nb2 nn2 hr2 (t + 1) → outOK g ro2 → cl2 ≤ cl + 8 → sl2 ≤ sl + 48 → va_P g.1 vwCl (wl 125 L (cw g L x2 (mw g L y2 ch2 ro2))) H → va_S (fun q : Nat => s.heap.size ≤ q) s.heap H locs → lv_has ls 9 [(0, .ref b), (1, .ref (L 0)), (2, .ref (L 106)), (3, .ref (L 123)), (4, .ref (L 124)), (5, .int (nI (5 * t)))] → W p l e room_1 s m #[Value.ref b] below meth c H locs cl2 sl2 (lw_Z below #[Value.ref b] s) (F0 m 1264 ls [])) : W p l e room_1 s m #[Value.ref b] below meth c H locs cl sl (lw_Z below #[Value.ref b] s) (F0 m 884 ls []) := by
  obtain ⟨hx, hb, hr9, hml, hown, hts0, hX, hbl, hlocks, hgv⟩ := id C0
  have hown : s.vm.findClass RL = some m.cls := hown
  have hts : ∀ w ∈ wsL_law, w.before #[Value.ref b] s = true := fun w h => hts0 w (wsL_law_in w h)
  have hbA : ¬ (fun q : Nat => s.heap.size ≤ q) b := Nat.not_le.mpr hbl
  have hn : 125 ≤ 125 := Nat.le_refl _
  have hG := hR.gi
  have hnb := hG.nb6
  have hx0 := hG.x0
  have hnn := hG.nn40
  have hx1 := hG.x1
  have hsh := hG.sh
  have hrk := hG.rk
  have hbz := hR.b14
  obtain ⟨cnt, hcn, hx4⟩ := hR.cnt
  obtain ⟨⟨f, ho1⟩, ⟨fd, ho2⟩⟩ := id ho
  have htc : ∀ b, b < 6 → (fun b => (x 19 b 0).toNatClampNeg) b ≤ 1920 := fun b hb => hG.tc hb
  have hx19 : ∀ b, b < 6 → x 19 b 0 = nI ((fun b => (x 19 b 0).toNatClampNeg) b) := fun b hb => hG.x19 hb
  generalize (fun b => (x 19 b 0).toNatClampNeg) = tcs at htc hx19
  have hhr := hR.hr
  have hyh := hR.y1
  obtain ⟨a1, ea1⟩ : ∃ a, a = xs (nI (5 * t) + 1).toNatClampNeg := ⟨_, rfl⟩
  obtain ⟨a2, ea2⟩ : ∃ a, a = xs (nI (5 * t) + 2).toNatClampNeg := ⟨_, rfl⟩
  obtain ⟨a3, ea3⟩ : ∃ a, a = xs (nI (5 * t) + 3).toNatClampNeg := ⟨_, rfl⟩
  obtain ⟨a4, ea4⟩ : ∃ a, a = xs (nI (5 * t) + 4).toNatClampNeg := ⟨_, rfl⟩
  have ht9 : t < 512 := by omega
  refine lv_aload_n hx hb dL_law_884 rfl (lv_at hl 1 rfl) ?_
  refine lv_aload_n hx hb dL_law_885 rfl (lv_at hl 0 rfl) ?_
  refine lv_iload hx hb dL_law_886 (lv_at hl 5 rfl) ?_
  refine lv_iconst (v := 1) hx hb dL_law_888 (by decide) ?_
  refine lv_iadd hx hb dL_law_889 ?_
  refine va_sld hx hb hX hbl hbA hS (i := (nI (5 * t)) + 1) (by rw [show nI (5 * t) + 1 = nI (5 * t + 1) from nI_add _ 1]; exact vp_in_nI (by omega) (by omega)) dL_law_890 ?_
  rw [← ea1]
  refine lv_aload_n hx hb dL_law_891 rfl (lv_at hl 0 rfl) ?_
  refine lv_iload hx hb dL_law_892 (lv_at hl 5 rfl) ?_
  refine lv_iconst (v := 2) hx hb dL_law_894 (by decide) ?_
  refine lv_iadd hx hb dL_law_895 ?_
  refine va_sld hx hb hX hbl hbA hS (i := (nI (5 * t)) + 2) (by rw [show nI (5 * t) + 2 = nI (5 * t + 2) from nI_add _ 2]; exact vp_in_nI (by omega) (by omega)) dL_law_896 ?_
  rw [← ea2]
  refine lv_aload_n hx hb dL_law_897 rfl (lv_at hl 3 rfl) ?_
  refine wx_calli (vx_runSW (As := [.ref (L 0), .int a1, .int a2, .ref (L 123)]) (rest := []) ⟨hx, hb, hml, hown, hts⟩ (kl_readIn l hst g s.heap.size 125 L (by omega) x (mw g L y ch ro) nn hnn hx1 cnt hcn hx4 a1 a2 f ((mw_ge (by decide)).trans ho1)) (vx_cwSW 4 hts gL_law_L_readIn rfl rfl rfl (by decide +kernel) ⟨Nat.le_of_ble_eq_true rfl, Nat.le_of_ble_eq_true rfl⟩) (PW.preS3 (Nat.le_refl _) hJ hK hE hP hS) rfl rfl hl.1 rfl (lv_room (Nat.le_of_ble_eq_true rfl)) dL_law_898 ⟨(by show _ ≤ 603072; omega), (by show _ ≤ 7215210; omega)⟩) hS (fun r898 u898 H locs h898 hP hS => ?_)
  obtain ⟨ro2, e9, hc⟩ := c_readIn (nb := nb) (nn := nn) h898
  rw [e9, cw_mw] at hP
  refine lv_istore (lv' := [(6, .int r898), (0, .ref b), (1, .ref (L 0)), (2, .ref (L 106)), (3, .ref (L 123)), (4, .ref (L 124)), (5, .int (nI (5 * t)))]) hx hb dL_law_901 hl (by decide) rfl (fun ls hl => ?_)
  refine lv_aload_n hx hb dL_law_903 rfl (lv_at hl 3 rfl) ?_
  refine lv_aload_n hx hb dL_law_904 rfl (lv_at hl 1 rfl) ?_
  refine lv_iload hx hb dL_law_905 (lv_at hl 6 rfl) ?_
  refine lv_iconst (v := 1) hx hb dL_law_907 (by decide) ?_
  refine lv_iadd hx hb dL_law_908 ?_
  refine va_sld hx hb hX hbl hbA hS (i := (nI (5 * t)) + 1) (by rw [show nI (5 * t) + 1 = nI (5 * t + 1) from nI_add _ 1]; exact vp_in_nI (by omega) (by omega)) dL_law_909 ?_
  rw [← ea1]
  refine lv_aload_n hx hb dL_law_910 rfl (lv_at hl 1 rfl) ?_
  refine lv_iload hx hb dL_law_911 (lv_at hl 6 rfl) ?_
  refine lv_iconst (v := 2) hx hb dL_law_913 (by decide) ?_
  refine lv_iadd hx hb dL_law_914 ?_
  refine va_sld hx hb hX hbl hbA hS (i := (nI (5 * t)) + 2) (by rw [show nI (5 * t) + 2 = nI (5 * t + 2) from nI_add _ 2]; exact vp_in_nI (by omega) (by omega)) dL_law_915 ?_
  rw [← ea2]
  refine wx_calli (va_runV (As := [.int a1, .int a2]) (rest := []) ⟨hx, hb, hml, hown, hts⟩ (m_readIn l hst g s.heap.size 125 L (by omega) y ch (cw g L u898.1 ro2) nb nn hR.mi a1 a2) (cwV 2 hts gL_law_X4_readIn rfl rfl rfl (by decide +kernel) ⟨Nat.le_of_ble_eq_true rfl, Nat.le_of_ble_eq_true rfl⟩) (PW.preV3 (Nat.le_refl _) hJ hK hE hP hS (ci := 6) rfl (by omega) mw_o) rfl rfl hl.1 rfl (lv_room (Nat.le_of_ble_eq_true rfl)) dL_law_916 ⟨(by show _ ≤ 603072; omega), (by show _ ≤ 7215210; omega)⟩) hS (fun r916 u916 H locs h916 hP hS => ?_)
  obtain ⟨⟨nb2, nn2, hr2, hR2⟩, ho9⟩ := s_readIn (f := f) (r2 := r916) ht9 hR ho hcn hx4 hc h916
  refine lv_istore (lv' := [(7, .int r916), (6, .int r898), (0, .ref b), (1, .ref (L 0)), (2, .ref (L 106)), (3, .ref (L 123)), (4, .ref (L 124)), (5, .int (nI (5 * t)))]) hx hb dL_law_919 hl (by decide) rfl (fun ls hl => ?_)
  refine lv_goto (tgt := 1264) hx hb dL_law_921 (by decide) ?_
  exact hnext _ _ _ _ _ _ _ _ _ _ _ _ hR2 ho9 (by omega) (by omega) (by rw [cw_mw]; exact hP) hS (lv_sub hl [2, 3, 4, 5, 6, 7] rfl)

set_option maxHeartbeats 8000000 in
set_option maxRecDepth 100000 in
theorem law_c19 {p : Program} {e : Env} {s : State} {m : MethodId} {below : List Frame} {meth : Method} {c : Code} (l : Launch) (hst : l.stackTraces = false) {b N : Nat} {xs : Nat → Int32} (hN : N ≤ 2560) (C0 : lw_At p s m meth c b N xs) (g : gE) (L : Nat → Nat) (hJ : wj 125 L (fun q : Nat => s.heap.size ≤ q)) (hK : va_K g.1 vwCl (tysC g) s) (hE : EE SS (fun q : Nat => s.heap.size ≤ q) s) {t : Nat} (ht : 5 * t + 5 ≤ N) {x y : St} {ch : Int64} {nb nn hr : Nat} {ro : Nat → va_E} (hR : R2 x y ch nb nn hr t) (ho : outOK g ro) {cl sl : Nat} (hcl : cl + 100 ≤ 603072) (hsl : sl + 1000 ≤ 7215210) {H : Heap} {locs : List Loc} (hP : va_P g.1 vwCl (wl 125 L (cw g L x (mw g L y ch ro))) H) (hS : va_S (fun q : Nat => s.heap.size ≤ q) s.heap H locs) {ls : Array Slot} (hl : lv_has ls 9 [(0, .ref b), (1, .ref (L 0)), (2, .ref (L 106)), (3, .ref (L 123)), (4, .ref (L 124)), (5, .int (nI (5 * t)))]) (hnext : ∀ (x2 y2 : St) (ch2 : Int64) (nb2 nn2 hr2 : Nat) (ro2 : Nat → va_E) (cl2 sl2 : Nat) (H : Heap) (locs : List Loc) (ls : Array Slot), R2 x2 y2 ch2 nb2 nn2 hr2 (t + 1) → outOK g ro2 → cl2 ≤ cl + 8 → sl2 ≤ sl + 48 → va_P g.1 vwCl (wl 125 L (cw g L x2 (mw g L y2 ch2 ro2))) H → va_S (fun q : Nat => s.heap.size ≤ q) s.heap H locs → lv_has ls 9 [(0, .ref b), (1, .ref (L 0)), (2, .ref (L 106)), (3, .ref (L 123)), (4, .ref (L 124)), (5, .int (nI (5 * t)))] → W p l e room_1 s m #[Value.ref b] below meth c H locs cl2 sl2 (lw_Z below #[Value.ref b] s) (F0 m 1264 ls [])) : W p l e room_1 s m #[Value.ref b] below meth c H locs cl sl (lw_Z below #[Value.ref b] s) (F0 m 924 ls []) := by
  obtain ⟨hx, hb, hr9, hml, hown, hts0, hX, hbl, hlocks, hgv⟩ := id C0
  have hown : s.vm.findClass RL = some m.cls := hown
  have hts : ∀ w ∈ wsL_law, w.before #[Value.ref b] s = true := fun w h => hts0 w (wsL_law_in w h)
  have hbA : ¬ (fun q : Nat => s.heap.size ≤ q) b := Nat.not_le.mpr hbl
  have hn : 125 ≤ 125 := Nat.le_refl _
  have hG := hR.gi
  have hnb := hG.nb6
  have hx0 := hG.x0
  have hnn := hG.nn40
  have hx1 := hG.x1
  have hsh := hG.sh
  have hrk := hG.rk
  have hbz := hR.b14
  obtain ⟨cnt, hcn, hx4⟩ := hR.cnt
  obtain ⟨⟨f, ho1⟩, ⟨fd, ho2⟩⟩ := id ho
  have htc : ∀ b, b < 6 → (fun b => (x 19 b 0).toNatClampNeg) b ≤ 1920 := fun b hb => hG.tc hb
  have hx19 : ∀ b, b < 6 → x 19 b 0 = nI ((fun b => (x 19 b 0).toNatClampNeg) b) := fun b hb => hG.x19 hb
  generalize (fun b => (x 19 b 0).toNatClampNeg) = tcs at htc hx19
  have hhr := hR.hr
  have hyh := hR.y1
  obtain ⟨a1, ea1⟩ : ∃ a, a = xs (nI (5 * t) + 1).toNatClampNeg := ⟨_, rfl⟩
  obtain ⟨a2, ea2⟩ : ∃ a, a = xs (nI (5 * t) + 2).toNatClampNeg := ⟨_, rfl⟩
  obtain ⟨a3, ea3⟩ : ∃ a, a = xs (nI (5 * t) + 3).toNatClampNeg := ⟨_, rfl⟩
  obtain ⟨a4, ea4⟩ : ∃ a, a = xs (nI (5 * t) + 4).toNatClampNeg := ⟨_, rfl⟩
  have ht9 : t < 512 := by omega
  refine lv_aload_n hx hb dL_law_924 rfl (lv_at hl 1 rfl) ?_
  refine lv_aload_n hx hb dL_law_925 rfl (lv_at hl 0 rfl) ?_
  refine lv_iload hx hb dL_law_926 (lv_at hl 5 rfl) ?_
  refine lv_iconst (v := 1) hx hb dL_law_928 (by decide) ?_
  refine lv_iadd hx hb dL_law_929 ?_
  refine va_sld hx hb hX hbl hbA hS (i := (nI (5 * t)) + 1) (by rw [show nI (5 * t) + 1 = nI (5 * t + 1) from nI_add _ 1]; exact vp_in_nI (by omega) (by omega)) dL_law_930 ?_
  rw [← ea1]
  refine lv_aload_n hx hb dL_law_931 rfl (lv_at hl 0 rfl) ?_
  refine lv_iload hx hb dL_law_932 (lv_at hl 5 rfl) ?_
  refine lv_iconst (v := 2) hx hb dL_law_934 (by decide) ?_
  refine lv_iadd hx hb dL_law_935 ?_
  refine va_sld hx hb hX hbl hbA hS (i := (nI (5 * t)) + 2) (by rw [show nI (5 * t) + 2 = nI (5 * t + 2) from nI_add _ 2]; exact vp_in_nI (by omega) (by omega)) dL_law_936 ?_
  rw [← ea2]
  refine lv_aload_n hx hb dL_law_937 rfl (lv_at hl 3 rfl) ?_
  refine wx_calli (vx_runSW (As := [.ref (L 0), .int a1, .int a2, .ref (L 123)]) (rest := []) ⟨hx, hb, hml, hown, hts⟩ (kl_suspects l hst g s.heap.size 125 L (by omega) x (mw g L y ch ro) nb hnb hx0 nn hnn hx1 a1 a2 f ((mw_ge (by decide)).trans ho1)) (vx_cwSW 4 hts gL_law_L_suspects rfl rfl rfl (by decide +kernel) ⟨Nat.le_of_ble_eq_true rfl, Nat.le_of_ble_eq_true rfl⟩) (PW.preS3 (Nat.le_refl _) hJ hK hE hP hS) rfl rfl hl.1 rfl (lv_room (Nat.le_of_ble_eq_true rfl)) dL_law_938 ⟨(by show _ ≤ 603072; omega), (by show _ ≤ 7215210; omega)⟩) hS (fun r938 u938 H locs h938 hP hS => ?_)
  obtain ⟨ro2, e9, hc⟩ := c_suspects (nb := nb) (nn := nn) h938
  rw [e9, cw_mw] at hP
  refine lv_istore (lv' := [(6, .int r938), (0, .ref b), (1, .ref (L 0)), (2, .ref (L 106)), (3, .ref (L 123)), (4, .ref (L 124)), (5, .int (nI (5 * t)))]) hx hb dL_law_941 hl (by decide) rfl (fun ls hl => ?_)
  refine lv_aload_n hx hb dL_law_943 rfl (lv_at hl 3 rfl) ?_
  refine lv_aload_n hx hb dL_law_944 rfl (lv_at hl 1 rfl) ?_
  refine lv_iload hx hb dL_law_945 (lv_at hl 6 rfl) ?_
  refine lv_iconst (v := 1) hx hb dL_law_947 (by decide) ?_
  refine lv_iadd hx hb dL_law_948 ?_
  refine va_sld hx hb hX hbl hbA hS (i := (nI (5 * t)) + 1) (by rw [show nI (5 * t) + 1 = nI (5 * t + 1) from nI_add _ 1]; exact vp_in_nI (by omega) (by omega)) dL_law_949 ?_
  rw [← ea1]
  refine lv_aload_n hx hb dL_law_950 rfl (lv_at hl 1 rfl) ?_
  refine lv_iload hx hb dL_law_951 (lv_at hl 6 rfl) ?_
  refine lv_iconst (v := 2) hx hb dL_law_953 (by decide) ?_
  refine lv_iadd hx hb dL_law_954 ?_
  refine va_sld hx hb hX hbl hbA hS (i := (nI (5 * t)) + 2) (by rw [show nI (5 * t) + 2 = nI (5 * t + 2) from nI_add _ 2]; exact vp_in_nI (by omega) (by omega)) dL_law_955 ?_
  rw [← ea2]
  refine wx_calli (va_runV (As := [.int a1, .int a2]) (rest := []) ⟨hx, hb, hml, hown, hts⟩ (m_suspects l hst g s.heap.size 125 L (by omega) y ch (cw g L u938.1 ro2) nb nn hR.mi a1 a2) (cwV 2 hts gL_law_X4_suspects rfl rfl rfl (by decide +kernel) ⟨Nat.le_of_ble_eq_true rfl, Nat.le_of_ble_eq_true rfl⟩) (PW.preV3 (Nat.le_refl _) hJ hK hE hP hS (ci := 6) rfl (by omega) mw_o) rfl rfl hl.1 rfl (lv_room (Nat.le_of_ble_eq_true rfl)) dL_law_956 ⟨(by show _ ≤ 603072; omega), (by show _ ≤ 7215210; omega)⟩) hS (fun r956 u956 H locs h956 hP hS => ?_)
  obtain ⟨⟨nb2, nn2, hr2, hR2⟩, ho9⟩ := s_suspects (f := f) (r2 := r956) ht9 hR ho hc h956
  refine lv_istore (lv' := [(7, .int r956), (6, .int r938), (0, .ref b), (1, .ref (L 0)), (2, .ref (L 106)), (3, .ref (L 123)), (4, .ref (L 124)), (5, .int (nI (5 * t)))]) hx hb dL_law_959 hl (by decide) rfl (fun ls hl => ?_)
  refine lv_goto (tgt := 1264) hx hb dL_law_961 (by decide) ?_
  exact hnext _ _ _ _ _ _ _ _ _ _ _ _ hR2 ho9 (by omega) (by omega) (by rw [cw_mw]; exact hP) hS (lv_sub hl [2, 3, 4, 5, 6, 7] rfl)

set_option maxHeartbeats 8000000 in
set_option maxRecDepth 100000 in
theorem law_c20 {p : Program} {e : Env} {s : State} {m : MethodId} {below : List Frame} {meth : Method} {c : Code} (l : Launch) (hst : l.stackTraces = false) {b N : Nat} {xs : Nat → Int32} (hN : N ≤ 2560) (C0 : lw_At p s m meth c b N xs) (g : gE) (L : Nat → Nat) (hJ : wj 125 L (fun q : Nat => s.heap.size ≤ q)) (hK : va_K g.1 vwCl (tysC g) s) (hE : EE SS (fun q : Nat => s.heap.size ≤ q) s) {t : Nat} (ht : 5 * t + 5 ≤ N) {x y : St} {ch : Int64} {nb nn hr : Nat} {ro : Nat → va_E} (hR : R2 x y ch nb nn hr t) (ho : outOK g ro) {cl sl : Nat} (hcl : cl + 100 ≤ 603072) (hsl : sl + 1000 ≤ 7215210) {H : Heap} {locs : List Loc} (hP : va_P g.1 vwCl (wl 125 L (cw g L x (mw g L y ch ro))) H) (hS : va_S (fun q : Nat => s.heap.size ≤ q) s.heap H locs) {ls : Array Slot} (hl : lv_has ls 9 [(0, .ref b), (1, .ref (L 0)), (2, .ref (L 106)), (3, .ref (L 123)), (4, .ref (L 124)), (5, .int (nI (5 * t)))]) (hnext : ∀ (x2 y2 : St) (ch2 : Int64) (nb2 nn2 hr2 : Nat) (ro2 : Nat → va_E) (cl2 sl2 : Nat) (H : Heap) (locs : List Loc) (ls : Array Slot), R2 x2 y2 ch2 nb2 nn2 hr2 (t + 1) → outOK g ro2 → cl2 ≤ cl + 8 → sl2 ≤ sl + 48 → va_P g.1 vwCl (wl 125 L (cw g L x2 (mw g L y2 ch2 ro2))) H → va_S (fun q : Nat => s.heap.size ≤ q) s.heap H locs → lv_has ls 9 [(0, .ref b), (1, .ref (L 0)), (2, .ref (L 106)), (3, .ref (L 123)), (4, .ref (L 124)), (5, .int (nI (5 * t)))] → W p l e room_1 s m #[Value.ref b] below meth c H locs cl2 sl2 (lw_Z below #[Value.ref b] s) (F0 m 1264 ls [])) : W p l e room_1 s m #[Value.ref b] below meth c H locs cl sl (lw_Z below #[Value.ref b] s) (F0 m 964 ls []) := by
  obtain ⟨hx, hb, hr9, hml, hown, hts0, hX, hbl, hlocks, hgv⟩ := id C0
  have hown : s.vm.findClass RL = some m.cls := hown
  have hts : ∀ w ∈ wsL_law, w.before #[Value.ref b] s = true := fun w h => hts0 w (wsL_law_in w h)
  have hbA : ¬ (fun q : Nat => s.heap.size ≤ q) b := Nat.not_le.mpr hbl
  have hn : 125 ≤ 125 := Nat.le_refl _
  have hG := hR.gi
  have hnb := hG.nb6
  have hx0 := hG.x0
  have hnn := hG.nn40
  have hx1 := hG.x1
  have hsh := hG.sh
  have hrk := hG.rk
  have hbz := hR.b14
  obtain ⟨cnt, hcn, hx4⟩ := hR.cnt
  obtain ⟨⟨f, ho1⟩, ⟨fd, ho2⟩⟩ := id ho
  have htc : ∀ b, b < 6 → (fun b => (x 19 b 0).toNatClampNeg) b ≤ 1920 := fun b hb => hG.tc hb
  have hx19 : ∀ b, b < 6 → x 19 b 0 = nI ((fun b => (x 19 b 0).toNatClampNeg) b) := fun b hb => hG.x19 hb
  generalize (fun b => (x 19 b 0).toNatClampNeg) = tcs at htc hx19
  have hhr := hR.hr
  have hyh := hR.y1
  obtain ⟨a1, ea1⟩ : ∃ a, a = xs (nI (5 * t) + 1).toNatClampNeg := ⟨_, rfl⟩
  obtain ⟨a2, ea2⟩ : ∃ a, a = xs (nI (5 * t) + 2).toNatClampNeg := ⟨_, rfl⟩
  obtain ⟨a3, ea3⟩ : ∃ a, a = xs (nI (5 * t) + 3).toNatClampNeg := ⟨_, rfl⟩
  obtain ⟨a4, ea4⟩ : ∃ a, a = xs (nI (5 * t) + 4).toNatClampNeg := ⟨_, rfl⟩
  have ht9 : t < 512 := by omega
  refine lv_aload_n hx hb dL_law_964 rfl (lv_at hl 1 rfl) ?_
  refine lv_aload_n hx hb dL_law_965 rfl (lv_at hl 0 rfl) ?_
  refine lv_iload hx hb dL_law_966 (lv_at hl 5 rfl) ?_
  refine lv_iconst (v := 1) hx hb dL_law_968 (by decide) ?_
  refine lv_iadd hx hb dL_law_969 ?_
  refine va_sld hx hb hX hbl hbA hS (i := (nI (5 * t)) + 1) (by rw [show nI (5 * t) + 1 = nI (5 * t + 1) from nI_add _ 1]; exact vp_in_nI (by omega) (by omega)) dL_law_970 ?_
  rw [← ea1]
  refine lv_aload_n hx hb dL_law_971 rfl (lv_at hl 0 rfl) ?_
  refine lv_iload hx hb dL_law_972 (lv_at hl 5 rfl) ?_
  refine lv_iconst (v := 2) hx hb dL_law_974 (by decide) ?_
  refine lv_iadd hx hb dL_law_975 ?_
  refine va_sld hx hb hX hbl hbA hS (i := (nI (5 * t)) + 2) (by rw [show nI (5 * t) + 2 = nI (5 * t + 2) from nI_add _ 2]; exact vp_in_nI (by omega) (by omega)) dL_law_976 ?_
  rw [← ea2]
  refine lv_aload_n hx hb dL_law_977 rfl (lv_at hl 0 rfl) ?_
  refine lv_iload hx hb dL_law_978 (lv_at hl 5 rfl) ?_
  refine lv_iconst (v := 3) hx hb dL_law_980 (by decide) ?_
  refine lv_iadd hx hb dL_law_981 ?_
  refine va_sld hx hb hX hbl hbA hS (i := (nI (5 * t)) + 3) (by rw [show nI (5 * t) + 3 = nI (5 * t + 3) from nI_add _ 3]; exact vp_in_nI (by omega) (by omega)) dL_law_982 ?_
  rw [← ea3]
  refine lv_aload_n hx hb dL_law_983 rfl (lv_at hl 3 rfl) ?_
  refine wx_calli (vx_runSW (As := [.ref (L 0), .int a1, .int a2, .int a3, .ref (L 123)]) (rest := []) ⟨hx, hb, hml, hown, hts⟩ (kl_suspectAt l hst g s.heap.size 125 L (by omega) x (mw g L y ch ro) nb hnb hx0 nn hnn hx1 a1 a2 a3 f ((mw_ge (by decide)).trans ho1)) (vx_cwSW 5 hts gL_law_L_suspectAt rfl rfl rfl (by decide +kernel) ⟨Nat.le_of_ble_eq_true rfl, Nat.le_of_ble_eq_true rfl⟩) (PW.preS3 (Nat.le_refl _) hJ hK hE hP hS) rfl rfl hl.1 rfl (lv_room (Nat.le_of_ble_eq_true rfl)) dL_law_984 ⟨(by show _ ≤ 603072; omega), (by show _ ≤ 7215210; omega)⟩) hS (fun r984 u984 H locs h984 hP hS => ?_)
  obtain ⟨ro2, e9, hc⟩ := c_suspectAt (nb := nb) (nn := nn) h984
  rw [e9, cw_mw] at hP
  refine lv_istore (lv' := [(6, .int r984), (0, .ref b), (1, .ref (L 0)), (2, .ref (L 106)), (3, .ref (L 123)), (4, .ref (L 124)), (5, .int (nI (5 * t)))]) hx hb dL_law_987 hl (by decide) rfl (fun ls hl => ?_)
  refine lv_aload_n hx hb dL_law_989 rfl (lv_at hl 3 rfl) ?_
  refine lv_aload_n hx hb dL_law_990 rfl (lv_at hl 1 rfl) ?_
  refine lv_iload hx hb dL_law_991 (lv_at hl 6 rfl) ?_
  refine lv_iconst (v := 1) hx hb dL_law_993 (by decide) ?_
  refine lv_iadd hx hb dL_law_994 ?_
  refine va_sld hx hb hX hbl hbA hS (i := (nI (5 * t)) + 1) (by rw [show nI (5 * t) + 1 = nI (5 * t + 1) from nI_add _ 1]; exact vp_in_nI (by omega) (by omega)) dL_law_995 ?_
  rw [← ea1]
  refine lv_aload_n hx hb dL_law_996 rfl (lv_at hl 1 rfl) ?_
  refine lv_iload hx hb dL_law_997 (lv_at hl 6 rfl) ?_
  refine lv_iconst (v := 2) hx hb dL_law_999 (by decide) ?_
  refine lv_iadd hx hb dL_law_1000 ?_
  refine va_sld hx hb hX hbl hbA hS (i := (nI (5 * t)) + 2) (by rw [show nI (5 * t) + 2 = nI (5 * t + 2) from nI_add _ 2]; exact vp_in_nI (by omega) (by omega)) dL_law_1001 ?_
  rw [← ea2]
  refine lv_aload_n hx hb dL_law_1002 rfl (lv_at hl 1 rfl) ?_
  refine lv_iload hx hb dL_law_1003 (lv_at hl 6 rfl) ?_
  refine lv_iconst (v := 3) hx hb dL_law_1005 (by decide) ?_
  refine lv_iadd hx hb dL_law_1006 ?_
  refine va_sld hx hb hX hbl hbA hS (i := (nI (5 * t)) + 3) (by rw [show nI (5 * t) + 3 = nI (5 * t + 3) from nI_add _ 3]; exact vp_in_nI (by omega) (by omega)) dL_law_1007 ?_
  rw [← ea3]
  refine wx_calli (va_runV (As := [.int a1, .int a2, .int a3]) (rest := []) ⟨hx, hb, hml, hown, hts⟩ (m_suspectAt l hst g s.heap.size 125 L (by omega) y ch (cw g L u984.1 ro2) nb nn hR.mi a1 a2 a3) (cwV 3 hts gL_law_X4_suspectAt rfl rfl rfl (by decide +kernel) ⟨Nat.le_of_ble_eq_true rfl, Nat.le_of_ble_eq_true rfl⟩) (PW.preV3 (Nat.le_refl _) hJ hK hE hP hS (ci := 6) rfl (by omega) mw_o) rfl rfl hl.1 rfl (lv_room (Nat.le_of_ble_eq_true rfl)) dL_law_1008 ⟨(by show _ ≤ 603072; omega), (by show _ ≤ 7215210; omega)⟩) hS (fun r1008 u1008 H locs h1008 hP hS => ?_)
  obtain ⟨⟨nb2, nn2, hr2, hR2⟩, ho9⟩ := s_suspectAt (f := f) (r2 := r1008) ht9 hR ho hc h1008
  refine lv_istore (lv' := [(7, .int r1008), (6, .int r984), (0, .ref b), (1, .ref (L 0)), (2, .ref (L 106)), (3, .ref (L 123)), (4, .ref (L 124)), (5, .int (nI (5 * t)))]) hx hb dL_law_1011 hl (by decide) rfl (fun ls hl => ?_)
  refine lv_goto (tgt := 1264) hx hb dL_law_1013 (by decide) ?_
  exact hnext _ _ _ _ _ _ _ _ _ _ _ _ hR2 ho9 (by omega) (by omega) (by rw [cw_mw]; exact hP) hS (lv_sub hl [2, 3, 4, 5, 6, 7] rfl)

set_option maxHeartbeats 8000000 in
set_option maxRecDepth 100000 in
theorem law_c21 {p : Program} {e : Env} {s : State} {m : MethodId} {below : List Frame} {meth : Method} {c : Code} (l : Launch) (hst : l.stackTraces = false) {b N : Nat} {xs : Nat → Int32} (hN : N ≤ 2560) (C0 : lw_At p s m meth c b N xs) (g : gE) (L : Nat → Nat) (hJ : wj 125 L (fun q : Nat => s.heap.size ≤ q)) (hK : va_K g.1 vwCl (tysC g) s) (hE : EE SS (fun q : Nat => s.heap.size ≤ q) s) {t : Nat} (ht : 5 * t + 5 ≤ N) {x y : St} {ch : Int64} {nb nn hr : Nat} {ro : Nat → va_E} (hR : R2 x y ch nb nn hr t) (ho : outOK g ro) {cl sl : Nat} (hcl : cl + 100 ≤ 603072) (hsl : sl + 1000 ≤ 7215210) {H : Heap} {locs : List Loc} (hP : va_P g.1 vwCl (wl 125 L (cw g L x (mw g L y ch ro))) H) (hS : va_S (fun q : Nat => s.heap.size ≤ q) s.heap H locs) {ls : Array Slot} (hl : lv_has ls 9 [(0, .ref b), (1, .ref (L 0)), (2, .ref (L 106)), (3, .ref (L 123)), (4, .ref (L 124)), (5, .int (nI (5 * t)))]) (hnext : ∀ (x2 y2 : St) (ch2 : Int64) (nb2 nn2 hr2 : Nat) (ro2 : Nat → va_E) (cl2 sl2 : Nat) (H : Heap) (locs : List Loc) (ls : Array Slot), R2 x2 y2 ch2 nb2 nn2 hr2 (t + 1) → outOK g ro2 → cl2 ≤ cl + 8 → sl2 ≤ sl + 48 → va_P g.1 vwCl (wl 125 L (cw g L x2 (mw g L y2 ch2 ro2))) H → va_S (fun q : Nat => s.heap.size ≤ q) s.heap H locs → lv_has ls 9 [(0, .ref b), (1, .ref (L 0)), (2, .ref (L 106)), (3, .ref (L 123)), (4, .ref (L 124)), (5, .int (nI (5 * t)))] → W p l e room_1 s m #[Value.ref b] below meth c H locs cl2 sl2 (lw_Z below #[Value.ref b] s) (F0 m 1264 ls [])) : W p l e room_1 s m #[Value.ref b] below meth c H locs cl sl (lw_Z below #[Value.ref b] s) (F0 m 1016 ls []) := by
  obtain ⟨hx, hb, hr9, hml, hown, hts0, hX, hbl, hlocks, hgv⟩ := id C0
  have hown : s.vm.findClass RL = some m.cls := hown
  have hts : ∀ w ∈ wsL_law, w.before #[Value.ref b] s = true := fun w h => hts0 w (wsL_law_in w h)
  have hbA : ¬ (fun q : Nat => s.heap.size ≤ q) b := Nat.not_le.mpr hbl
  have hn : 125 ≤ 125 := Nat.le_refl _
  have hG := hR.gi
  have hnb := hG.nb6
  have hx0 := hG.x0
  have hnn := hG.nn40
  have hx1 := hG.x1
  have hsh := hG.sh
  have hrk := hG.rk
  have hbz := hR.b14
  obtain ⟨cnt, hcn, hx4⟩ := hR.cnt
  obtain ⟨⟨f, ho1⟩, ⟨fd, ho2⟩⟩ := id ho
  have htc : ∀ b, b < 6 → (fun b => (x 19 b 0).toNatClampNeg) b ≤ 1920 := fun b hb => hG.tc hb
  have hx19 : ∀ b, b < 6 → x 19 b 0 = nI ((fun b => (x 19 b 0).toNatClampNeg) b) := fun b hb => hG.x19 hb
  generalize (fun b => (x 19 b 0).toNatClampNeg) = tcs at htc hx19
  have hhr := hR.hr
  have hyh := hR.y1
  obtain ⟨a1, ea1⟩ : ∃ a, a = xs (nI (5 * t) + 1).toNatClampNeg := ⟨_, rfl⟩
  obtain ⟨a2, ea2⟩ : ∃ a, a = xs (nI (5 * t) + 2).toNatClampNeg := ⟨_, rfl⟩
  obtain ⟨a3, ea3⟩ : ∃ a, a = xs (nI (5 * t) + 3).toNatClampNeg := ⟨_, rfl⟩
  obtain ⟨a4, ea4⟩ : ∃ a, a = xs (nI (5 * t) + 4).toNatClampNeg := ⟨_, rfl⟩
  have ht9 : t < 512 := by omega
  refine lv_aload_n hx hb dL_law_1016 rfl (lv_at hl 1 rfl) ?_
  refine lv_aload_n hx hb dL_law_1017 rfl (lv_at hl 0 rfl) ?_
  refine lv_iload hx hb dL_law_1018 (lv_at hl 5 rfl) ?_
  refine lv_iconst (v := 1) hx hb dL_law_1020 (by decide) ?_
  refine lv_iadd hx hb dL_law_1021 ?_
  refine va_sld hx hb hX hbl hbA hS (i := (nI (5 * t)) + 1) (by rw [show nI (5 * t) + 1 = nI (5 * t + 1) from nI_add _ 1]; exact vp_in_nI (by omega) (by omega)) dL_law_1022 ?_
  rw [← ea1]
  refine lv_aload_n hx hb dL_law_1023 rfl (lv_at hl 3 rfl) ?_
  refine wx_calli (vx_runSW (As := [.ref (L 0), .int a1, .ref (L 123)]) (rest := []) ⟨hx, hb, hml, hown, hts⟩ (kl_go l hst g s.heap.size 125 L (by omega) x (mw g L y ch ro) nb nn hG a1 f ((mw_ge (by decide)).trans ho1)) (vx_cwSW 3 hts gL_law_L_go rfl rfl rfl (by decide +kernel) ⟨Nat.le_of_ble_eq_true rfl, Nat.le_of_ble_eq_true rfl⟩) (PW.preS3 (Nat.le_refl _) hJ hK hE hP hS) rfl rfl hl.1 rfl (lv_room (Nat.le_of_ble_eq_true rfl)) dL_law_1024 ⟨(by show _ ≤ 603072; omega), (by show _ ≤ 7215210; omega)⟩) hS (fun r1024 u1024 H locs h1024 hP hS => ?_)
  obtain ⟨ro2, e9, hc⟩ := c_go (nb := nb) (nn := nn) h1024
  rw [e9, cw_mw] at hP
  refine lv_istore (lv' := [(6, .int r1024), (0, .ref b), (1, .ref (L 0)), (2, .ref (L 106)), (3, .ref (L 123)), (4, .ref (L 124)), (5, .int (nI (5 * t)))]) hx hb dL_law_1027 hl (by decide) rfl (fun ls hl => ?_)
  refine lv_aload_n hx hb dL_law_1029 rfl (lv_at hl 3 rfl) ?_
  refine lv_aload_n hx hb dL_law_1030 rfl (lv_at hl 1 rfl) ?_
  refine lv_iload hx hb dL_law_1031 (lv_at hl 6 rfl) ?_
  refine lv_iconst (v := 1) hx hb dL_law_1033 (by decide) ?_
  refine lv_iadd hx hb dL_law_1034 ?_
  refine va_sld hx hb hX hbl hbA hS (i := (nI (5 * t)) + 1) (by rw [show nI (5 * t) + 1 = nI (5 * t + 1) from nI_add _ 1]; exact vp_in_nI (by omega) (by omega)) dL_law_1035 ?_
  rw [← ea1]
  refine wx_calli (va_runV (As := [.int a1]) (rest := []) ⟨hx, hb, hml, hown, hts⟩ (m_go l hst g s.heap.size 125 L (by omega) y ch (cw g L u1024.1 ro2) nb nn hR.mi a1) (cwV 1 hts gL_law_X4_go rfl rfl rfl (by decide +kernel) ⟨Nat.le_of_ble_eq_true rfl, Nat.le_of_ble_eq_true rfl⟩) (PW.preV3 (Nat.le_refl _) hJ hK hE hP hS (ci := 6) rfl (by omega) mw_o) rfl rfl hl.1 rfl (lv_room (Nat.le_of_ble_eq_true rfl)) dL_law_1036 ⟨(by show _ ≤ 603072; omega), (by show _ ≤ 7215210; omega)⟩) hS (fun r1036 u1036 H locs h1036 hP hS => ?_)
  obtain ⟨⟨nb2, nn2, hr2, hR2⟩, ho9⟩ := s_go (f := f) (r2 := r1036) ht9 hR ho hc h1036
  refine lv_istore (lv' := [(7, .int r1036), (6, .int r1024), (0, .ref b), (1, .ref (L 0)), (2, .ref (L 106)), (3, .ref (L 123)), (4, .ref (L 124)), (5, .int (nI (5 * t)))]) hx hb dL_law_1039 hl (by decide) rfl (fun ls hl => ?_)
  refine lv_goto (tgt := 1264) hx hb dL_law_1041 (by decide) ?_
  exact hnext _ _ _ _ _ _ _ _ _ _ _ _ hR2 ho9 (by omega) (by omega) (by rw [cw_mw]; exact hP) hS (lv_sub hl [2, 3, 4, 5, 6, 7] rfl)

set_option maxHeartbeats 8000000 in
set_option maxRecDepth 100000 in
theorem law_c22 {p : Program} {e : Env} {s : State} {m : MethodId} {below : List Frame} {meth : Method} {c : Code} (l : Launch) (hst : l.stackTraces = false) {b N : Nat} {xs : Nat → Int32} (hN : N ≤ 2560) (C0 : lw_At p s m meth c b N xs) (g : gE) (L : Nat → Nat) (hJ : wj 125 L (fun q : Nat => s.heap.size ≤ q)) (hK : va_K g.1 vwCl (tysC g) s) (hE : EE SS (fun q : Nat => s.heap.size ≤ q) s) {t : Nat} (ht : 5 * t + 5 ≤ N) {x y : St} {ch : Int64} {nb nn hr : Nat} {ro : Nat → va_E} (hR : R2 x y ch nb nn hr t) (ho : outOK g ro) {cl sl : Nat} (hcl : cl + 100 ≤ 603072) (hsl : sl + 1000 ≤ 7215210) {H : Heap} {locs : List Loc} (hP : va_P g.1 vwCl (wl 125 L (cw g L x (mw g L y ch ro))) H) (hS : va_S (fun q : Nat => s.heap.size ≤ q) s.heap H locs) {ls : Array Slot} (hl : lv_has ls 9 [(0, .ref b), (1, .ref (L 0)), (2, .ref (L 106)), (3, .ref (L 123)), (4, .ref (L 124)), (5, .int (nI (5 * t)))]) (hnext : ∀ (x2 y2 : St) (ch2 : Int64) (nb2 nn2 hr2 : Nat) (ro2 : Nat → va_E) (cl2 sl2 : Nat) (H : Heap) (locs : List Loc) (ls : Array Slot), R2 x2 y2 ch2 nb2 nn2 hr2 (t + 1) → outOK g ro2 → cl2 ≤ cl + 8 → sl2 ≤ sl + 48 → va_P g.1 vwCl (wl 125 L (cw g L x2 (mw g L y2 ch2 ro2))) H → va_S (fun q : Nat => s.heap.size ≤ q) s.heap H locs → lv_has ls 9 [(0, .ref b), (1, .ref (L 0)), (2, .ref (L 106)), (3, .ref (L 123)), (4, .ref (L 124)), (5, .int (nI (5 * t)))] → W p l e room_1 s m #[Value.ref b] below meth c H locs cl2 sl2 (lw_Z below #[Value.ref b] s) (F0 m 1264 ls [])) : W p l e room_1 s m #[Value.ref b] below meth c H locs cl sl (lw_Z below #[Value.ref b] s) (F0 m 1044 ls []) := by
  obtain ⟨hx, hb, hr9, hml, hown, hts0, hX, hbl, hlocks, hgv⟩ := id C0
  have hown : s.vm.findClass RL = some m.cls := hown
  have hts : ∀ w ∈ wsL_law, w.before #[Value.ref b] s = true := fun w h => hts0 w (wsL_law_in w h)
  have hbA : ¬ (fun q : Nat => s.heap.size ≤ q) b := Nat.not_le.mpr hbl
  have hn : 125 ≤ 125 := Nat.le_refl _
  have hG := hR.gi
  have hnb := hG.nb6
  have hx0 := hG.x0
  have hnn := hG.nn40
  have hx1 := hG.x1
  have hsh := hG.sh
  have hrk := hG.rk
  have hbz := hR.b14
  obtain ⟨cnt, hcn, hx4⟩ := hR.cnt
  obtain ⟨⟨f, ho1⟩, ⟨fd, ho2⟩⟩ := id ho
  have htc : ∀ b, b < 6 → (fun b => (x 19 b 0).toNatClampNeg) b ≤ 1920 := fun b hb => hG.tc hb
  have hx19 : ∀ b, b < 6 → x 19 b 0 = nI ((fun b => (x 19 b 0).toNatClampNeg) b) := fun b hb => hG.x19 hb
  generalize (fun b => (x 19 b 0).toNatClampNeg) = tcs at htc hx19
  have hhr := hR.hr
  have hyh := hR.y1
  obtain ⟨a1, ea1⟩ : ∃ a, a = xs (nI (5 * t) + 1).toNatClampNeg := ⟨_, rfl⟩
  obtain ⟨a2, ea2⟩ : ∃ a, a = xs (nI (5 * t) + 2).toNatClampNeg := ⟨_, rfl⟩
  obtain ⟨a3, ea3⟩ : ∃ a, a = xs (nI (5 * t) + 3).toNatClampNeg := ⟨_, rfl⟩
  obtain ⟨a4, ea4⟩ : ∃ a, a = xs (nI (5 * t) + 4).toNatClampNeg := ⟨_, rfl⟩
  have ht9 : t < 512 := by omega
  refine lv_aload_n hx hb dL_law_1044 rfl (lv_at hl 1 rfl) ?_
  refine wx_calli (va_runV (As := []) (rest := []) ⟨hx, hb, hml, hown, hts⟩ (k_hour l hst g s.heap.size 125 L (by omega) x (mw g L y ch ro) ) (cwV 0 hts gL_law_X3_hour rfl rfl rfl (by decide +kernel) ⟨Nat.le_of_ble_eq_true rfl, Nat.le_of_ble_eq_true rfl⟩) (PW.preV3 (Nat.le_refl _) hJ hK hE hP hS (ci := 5) rfl (by omega) cw_d) rfl rfl hl.1 rfl (lv_room (Nat.le_of_ble_eq_true rfl)) dL_law_1045 ⟨(by show _ ≤ 603072; omega), (by show _ ≤ 7215210; omega)⟩) hS (fun r1045 u1045 H locs h1045 hP hS => ?_)
  rw [cw_mw] at hP
  refine lv_pop hx hb dL_law_1048 rfl ?_
  refine lv_aload_n hx hb dL_law_1049 rfl (lv_at hl 2 rfl) ?_
  refine wx_calli (va_runV (As := []) (rest := []) ⟨hx, hb, hml, hown, hts⟩ (m_hour l hst g s.heap.size 125 L (by omega) y ch (cw g L x ro) nb nn hR.mi ) (cwV 0 hts gL_law_X4_hour rfl rfl rfl (by decide +kernel) ⟨Nat.le_of_ble_eq_true rfl, Nat.le_of_ble_eq_true rfl⟩) (PW.preV3 (Nat.le_refl _) hJ hK hE hP hS (ci := 6) rfl (by omega) mw_o) rfl rfl hl.1 rfl (lv_room (Nat.le_of_ble_eq_true rfl)) dL_law_1050 ⟨(by show _ ≤ 603072; omega), (by show _ ≤ 7215210; omega)⟩) hS (fun r1050 u1050 H locs h1050 hP hS => ?_)
  have hR2 : R2 x u1050.1 u1050.2 nb nn hr (t + 1) := by rw [h1050.1]; exact (hR.up ht9).tz
  have ho9 : outOK g ro := ho
  refine lv_pop hx hb dL_law_1053 rfl ?_
  refine lv_goto (tgt := 1264) hx hb dL_law_1054 (by decide) ?_
  exact hnext _ _ _ _ _ _ _ _ _ _ _ _ hR2 ho9 (by omega) (by omega) (by rw [cw_mw]; exact hP) hS (lv_sub hl [0, 1, 2, 3, 4, 5] rfl)

set_option maxHeartbeats 8000000 in
set_option maxRecDepth 100000 in
theorem law_c23 {p : Program} {e : Env} {s : State} {m : MethodId} {below : List Frame} {meth : Method} {c : Code} (l : Launch) (hst : l.stackTraces = false) {b N : Nat} {xs : Nat → Int32} (hN : N ≤ 2560) (C0 : lw_At p s m meth c b N xs) (g : gE) (L : Nat → Nat) (hJ : wj 125 L (fun q : Nat => s.heap.size ≤ q)) (hK : va_K g.1 vwCl (tysC g) s) (hE : EE SS (fun q : Nat => s.heap.size ≤ q) s) {t : Nat} (ht : 5 * t + 5 ≤ N) {x y : St} {ch : Int64} {nb nn hr : Nat} {ro : Nat → va_E} (hR : R2 x y ch nb nn hr t) (ho : outOK g ro) {cl sl : Nat} (hcl : cl + 100 ≤ 603072) (hsl : sl + 1000 ≤ 7215210) {H : Heap} {locs : List Loc} (hP : va_P g.1 vwCl (wl 125 L (cw g L x (mw g L y ch ro))) H) (hS : va_S (fun q : Nat => s.heap.size ≤ q) s.heap H locs) {ls : Array Slot} (hl : lv_has ls 9 [(0, .ref b), (1, .ref (L 0)), (2, .ref (L 106)), (3, .ref (L 123)), (4, .ref (L 124)), (5, .int (nI (5 * t)))]) (hnext : ∀ (x2 y2 : St) (ch2 : Int64) (nb2 nn2 hr2 : Nat) (ro2 : Nat → va_E) (cl2 sl2 : Nat) (H : Heap) (locs : List Loc) (ls : Array Slot), R2 x2 y2 ch2 nb2 nn2 hr2 (t + 1) → outOK g ro2 → cl2 ≤ cl + 8 → sl2 ≤ sl + 48 → va_P g.1 vwCl (wl 125 L (cw g L x2 (mw g L y2 ch2 ro2))) H → va_S (fun q : Nat => s.heap.size ≤ q) s.heap H locs → lv_has ls 9 [(0, .ref b), (1, .ref (L 0)), (2, .ref (L 106)), (3, .ref (L 123)), (4, .ref (L 124)), (5, .int (nI (5 * t)))] → W p l e room_1 s m #[Value.ref b] below meth c H locs cl2 sl2 (lw_Z below #[Value.ref b] s) (F0 m 1264 ls [])) : W p l e room_1 s m #[Value.ref b] below meth c H locs cl sl (lw_Z below #[Value.ref b] s) (F0 m 1057 ls []) := by
  obtain ⟨hx, hb, hr9, hml, hown, hts0, hX, hbl, hlocks, hgv⟩ := id C0
  have hown : s.vm.findClass RL = some m.cls := hown
  have hts : ∀ w ∈ wsL_law, w.before #[Value.ref b] s = true := fun w h => hts0 w (wsL_law_in w h)
  have hbA : ¬ (fun q : Nat => s.heap.size ≤ q) b := Nat.not_le.mpr hbl
  have hn : 125 ≤ 125 := Nat.le_refl _
  have hG := hR.gi
  have hnb := hG.nb6
  have hx0 := hG.x0
  have hnn := hG.nn40
  have hx1 := hG.x1
  have hsh := hG.sh
  have hrk := hG.rk
  have hbz := hR.b14
  obtain ⟨cnt, hcn, hx4⟩ := hR.cnt
  obtain ⟨⟨f, ho1⟩, ⟨fd, ho2⟩⟩ := id ho
  have htc : ∀ b, b < 6 → (fun b => (x 19 b 0).toNatClampNeg) b ≤ 1920 := fun b hb => hG.tc hb
  have hx19 : ∀ b, b < 6 → x 19 b 0 = nI ((fun b => (x 19 b 0).toNatClampNeg) b) := fun b hb => hG.x19 hb
  generalize (fun b => (x 19 b 0).toNatClampNeg) = tcs at htc hx19
  have hhr := hR.hr
  have hyh := hR.y1
  obtain ⟨a1, ea1⟩ : ∃ a, a = xs (nI (5 * t) + 1).toNatClampNeg := ⟨_, rfl⟩
  obtain ⟨a2, ea2⟩ : ∃ a, a = xs (nI (5 * t) + 2).toNatClampNeg := ⟨_, rfl⟩
  obtain ⟨a3, ea3⟩ : ∃ a, a = xs (nI (5 * t) + 3).toNatClampNeg := ⟨_, rfl⟩
  obtain ⟨a4, ea4⟩ : ∃ a, a = xs (nI (5 * t) + 4).toNatClampNeg := ⟨_, rfl⟩
  have ht9 : t < 512 := by omega
  refine lv_aload_n hx hb dL_law_1057 rfl (lv_at hl 1 rfl) ?_
  refine wx_calli (va_runV (As := []) (rest := []) ⟨hx, hb, hml, hown, hts⟩ (k_boards l hst g s.heap.size 125 L (by omega) x (mw g L y ch ro) ) (cwV 0 hts gL_law_X3_boards rfl rfl rfl (by decide +kernel) ⟨Nat.le_of_ble_eq_true rfl, Nat.le_of_ble_eq_true rfl⟩) (PW.preV3 (Nat.le_refl _) hJ hK hE hP hS (ci := 5) rfl (by omega) cw_d) rfl rfl hl.1 rfl (lv_room (Nat.le_of_ble_eq_true rfl)) dL_law_1058 ⟨(by show _ ≤ 603072; omega), (by show _ ≤ 7215210; omega)⟩) hS (fun r1058 u1058 H locs h1058 hP hS => ?_)
  rw [cw_mw] at hP
  refine lv_pop hx hb dL_law_1061 rfl ?_
  refine lv_aload_n hx hb dL_law_1062 rfl (lv_at hl 2 rfl) ?_
  refine wx_calli (va_runV (As := []) (rest := []) ⟨hx, hb, hml, hown, hts⟩ (m_boards l hst g s.heap.size 125 L (by omega) y ch (cw g L x ro) nb nn hR.mi ) (cwV 0 hts gL_law_X4_boards rfl rfl rfl (by decide +kernel) ⟨Nat.le_of_ble_eq_true rfl, Nat.le_of_ble_eq_true rfl⟩) (PW.preV3 (Nat.le_refl _) hJ hK hE hP hS (ci := 6) rfl (by omega) mw_o) rfl rfl hl.1 rfl (lv_room (Nat.le_of_ble_eq_true rfl)) dL_law_1063 ⟨(by show _ ≤ 603072; omega), (by show _ ≤ 7215210; omega)⟩) hS (fun r1063 u1063 H locs h1063 hP hS => ?_)
  have hR2 : R2 x u1063.1 u1063.2 nb nn hr (t + 1) := by rw [h1063.1]; exact (hR.up ht9).tz
  have ho9 : outOK g ro := ho
  refine lv_pop hx hb dL_law_1066 rfl ?_
  refine lv_goto (tgt := 1264) hx hb dL_law_1067 (by decide) ?_
  exact hnext _ _ _ _ _ _ _ _ _ _ _ _ hR2 ho9 (by omega) (by omega) (by rw [cw_mw]; exact hP) hS (lv_sub hl [0, 1, 2, 3, 4, 5] rfl)

set_option maxHeartbeats 8000000 in
set_option maxRecDepth 100000 in
theorem law_c24 {p : Program} {e : Env} {s : State} {m : MethodId} {below : List Frame} {meth : Method} {c : Code} (l : Launch) (hst : l.stackTraces = false) {b N : Nat} {xs : Nat → Int32} (hN : N ≤ 2560) (C0 : lw_At p s m meth c b N xs) (g : gE) (L : Nat → Nat) (hJ : wj 125 L (fun q : Nat => s.heap.size ≤ q)) (hK : va_K g.1 vwCl (tysC g) s) (hE : EE SS (fun q : Nat => s.heap.size ≤ q) s) {t : Nat} (ht : 5 * t + 5 ≤ N) {x y : St} {ch : Int64} {nb nn hr : Nat} {ro : Nat → va_E} (hR : R2 x y ch nb nn hr t) (ho : outOK g ro) {cl sl : Nat} (hcl : cl + 100 ≤ 603072) (hsl : sl + 1000 ≤ 7215210) {H : Heap} {locs : List Loc} (hP : va_P g.1 vwCl (wl 125 L (cw g L x (mw g L y ch ro))) H) (hS : va_S (fun q : Nat => s.heap.size ≤ q) s.heap H locs) {ls : Array Slot} (hl : lv_has ls 9 [(0, .ref b), (1, .ref (L 0)), (2, .ref (L 106)), (3, .ref (L 123)), (4, .ref (L 124)), (5, .int (nI (5 * t)))]) (hnext : ∀ (x2 y2 : St) (ch2 : Int64) (nb2 nn2 hr2 : Nat) (ro2 : Nat → va_E) (cl2 sl2 : Nat) (H : Heap) (locs : List Loc) (ls : Array Slot), R2 x2 y2 ch2 nb2 nn2 hr2 (t + 1) → outOK g ro2 → cl2 ≤ cl + 8 → sl2 ≤ sl + 48 → va_P g.1 vwCl (wl 125 L (cw g L x2 (mw g L y2 ch2 ro2))) H → va_S (fun q : Nat => s.heap.size ≤ q) s.heap H locs → lv_has ls 9 [(0, .ref b), (1, .ref (L 0)), (2, .ref (L 106)), (3, .ref (L 123)), (4, .ref (L 124)), (5, .int (nI (5 * t)))] → W p l e room_1 s m #[Value.ref b] below meth c H locs cl2 sl2 (lw_Z below #[Value.ref b] s) (F0 m 1264 ls [])) : W p l e room_1 s m #[Value.ref b] below meth c H locs cl sl (lw_Z below #[Value.ref b] s) (F0 m 1070 ls []) := by
  obtain ⟨hx, hb, hr9, hml, hown, hts0, hX, hbl, hlocks, hgv⟩ := id C0
  have hown : s.vm.findClass RL = some m.cls := hown
  have hts : ∀ w ∈ wsL_law, w.before #[Value.ref b] s = true := fun w h => hts0 w (wsL_law_in w h)
  have hbA : ¬ (fun q : Nat => s.heap.size ≤ q) b := Nat.not_le.mpr hbl
  have hn : 125 ≤ 125 := Nat.le_refl _
  have hG := hR.gi
  have hnb := hG.nb6
  have hx0 := hG.x0
  have hnn := hG.nn40
  have hx1 := hG.x1
  have hsh := hG.sh
  have hrk := hG.rk
  have hbz := hR.b14
  obtain ⟨cnt, hcn, hx4⟩ := hR.cnt
  obtain ⟨⟨f, ho1⟩, ⟨fd, ho2⟩⟩ := id ho
  have htc : ∀ b, b < 6 → (fun b => (x 19 b 0).toNatClampNeg) b ≤ 1920 := fun b hb => hG.tc hb
  have hx19 : ∀ b, b < 6 → x 19 b 0 = nI ((fun b => (x 19 b 0).toNatClampNeg) b) := fun b hb => hG.x19 hb
  generalize (fun b => (x 19 b 0).toNatClampNeg) = tcs at htc hx19
  have hhr := hR.hr
  have hyh := hR.y1
  obtain ⟨a1, ea1⟩ : ∃ a, a = xs (nI (5 * t) + 1).toNatClampNeg := ⟨_, rfl⟩
  obtain ⟨a2, ea2⟩ : ∃ a, a = xs (nI (5 * t) + 2).toNatClampNeg := ⟨_, rfl⟩
  obtain ⟨a3, ea3⟩ : ∃ a, a = xs (nI (5 * t) + 3).toNatClampNeg := ⟨_, rfl⟩
  obtain ⟨a4, ea4⟩ : ∃ a, a = xs (nI (5 * t) + 4).toNatClampNeg := ⟨_, rfl⟩
  have ht9 : t < 512 := by omega
  refine lv_aload_n hx hb dL_law_1070 rfl (lv_at hl 1 rfl) ?_
  refine wx_calli (va_runV (As := []) (rest := []) ⟨hx, hb, hml, hown, hts⟩ (k_notices l hst g s.heap.size 125 L (by omega) x (mw g L y ch ro) ) (cwV 0 hts gL_law_X3_notices rfl rfl rfl (by decide +kernel) ⟨Nat.le_of_ble_eq_true rfl, Nat.le_of_ble_eq_true rfl⟩) (PW.preV3 (Nat.le_refl _) hJ hK hE hP hS (ci := 5) rfl (by omega) cw_d) rfl rfl hl.1 rfl (lv_room (Nat.le_of_ble_eq_true rfl)) dL_law_1071 ⟨(by show _ ≤ 603072; omega), (by show _ ≤ 7215210; omega)⟩) hS (fun r1071 u1071 H locs h1071 hP hS => ?_)
  rw [cw_mw] at hP
  refine lv_pop hx hb dL_law_1074 rfl ?_
  refine lv_aload_n hx hb dL_law_1075 rfl (lv_at hl 2 rfl) ?_
  refine wx_calli (va_runV (As := []) (rest := []) ⟨hx, hb, hml, hown, hts⟩ (m_notices l hst g s.heap.size 125 L (by omega) y ch (cw g L x ro) nb nn hR.mi ) (cwV 0 hts gL_law_X4_notices rfl rfl rfl (by decide +kernel) ⟨Nat.le_of_ble_eq_true rfl, Nat.le_of_ble_eq_true rfl⟩) (PW.preV3 (Nat.le_refl _) hJ hK hE hP hS (ci := 6) rfl (by omega) mw_o) rfl rfl hl.1 rfl (lv_room (Nat.le_of_ble_eq_true rfl)) dL_law_1076 ⟨(by show _ ≤ 603072; omega), (by show _ ≤ 7215210; omega)⟩) hS (fun r1076 u1076 H locs h1076 hP hS => ?_)
  have hR2 : R2 x u1076.1 u1076.2 nb nn hr (t + 1) := by rw [h1076.1]; exact (hR.up ht9).tz
  have ho9 : outOK g ro := ho
  refine lv_pop hx hb dL_law_1079 rfl ?_
  refine lv_goto (tgt := 1264) hx hb dL_law_1080 (by decide) ?_
  exact hnext _ _ _ _ _ _ _ _ _ _ _ _ hR2 ho9 (by omega) (by omega) (by rw [cw_mw]; exact hP) hS (lv_sub hl [0, 1, 2, 3, 4, 5] rfl)

set_option maxHeartbeats 8000000 in
set_option maxRecDepth 100000 in
theorem law_c25 {p : Program} {e : Env} {s : State} {m : MethodId} {below : List Frame} {meth : Method} {c : Code} (l : Launch) (hst : l.stackTraces = false) {b N : Nat} {xs : Nat → Int32} (hN : N ≤ 2560) (C0 : lw_At p s m meth c b N xs) (g : gE) (L : Nat → Nat) (hJ : wj 125 L (fun q : Nat => s.heap.size ≤ q)) (hK : va_K g.1 vwCl (tysC g) s) (hE : EE SS (fun q : Nat => s.heap.size ≤ q) s) {t : Nat} (ht : 5 * t + 5 ≤ N) {x y : St} {ch : Int64} {nb nn hr : Nat} {ro : Nat → va_E} (hR : R2 x y ch nb nn hr t) (ho : outOK g ro) {cl sl : Nat} (hcl : cl + 100 ≤ 603072) (hsl : sl + 1000 ≤ 7215210) {H : Heap} {locs : List Loc} (hP : va_P g.1 vwCl (wl 125 L (cw g L x (mw g L y ch ro))) H) (hS : va_S (fun q : Nat => s.heap.size ≤ q) s.heap H locs) {ls : Array Slot} (hl : lv_has ls 9 [(0, .ref b), (1, .ref (L 0)), (2, .ref (L 106)), (3, .ref (L 123)), (4, .ref (L 124)), (5, .int (nI (5 * t)))]) (hnext : ∀ (x2 y2 : St) (ch2 : Int64) (nb2 nn2 hr2 : Nat) (ro2 : Nat → va_E) (cl2 sl2 : Nat) (H : Heap) (locs : List Loc) (ls : Array Slot), R2 x2 y2 ch2 nb2 nn2 hr2 (t + 1) → outOK g ro2 → cl2 ≤ cl + 8 → sl2 ≤ sl + 48 → va_P g.1 vwCl (wl 125 L (cw g L x2 (mw g L y2 ch2 ro2))) H → va_S (fun q : Nat => s.heap.size ≤ q) s.heap H locs → lv_has ls 9 [(0, .ref b), (1, .ref (L 0)), (2, .ref (L 106)), (3, .ref (L 123)), (4, .ref (L 124)), (5, .int (nI (5 * t)))] → W p l e room_1 s m #[Value.ref b] below meth c H locs cl2 sl2 (lw_Z below #[Value.ref b] s) (F0 m 1264 ls [])) : W p l e room_1 s m #[Value.ref b] below meth c H locs cl sl (lw_Z below #[Value.ref b] s) (F0 m 1083 ls []) := by
  obtain ⟨hx, hb, hr9, hml, hown, hts0, hX, hbl, hlocks, hgv⟩ := id C0
  have hown : s.vm.findClass RL = some m.cls := hown
  have hts : ∀ w ∈ wsL_law, w.before #[Value.ref b] s = true := fun w h => hts0 w (wsL_law_in w h)
  have hbA : ¬ (fun q : Nat => s.heap.size ≤ q) b := Nat.not_le.mpr hbl
  have hn : 125 ≤ 125 := Nat.le_refl _
  have hG := hR.gi
  have hnb := hG.nb6
  have hx0 := hG.x0
  have hnn := hG.nn40
  have hx1 := hG.x1
  have hsh := hG.sh
  have hrk := hG.rk
  have hbz := hR.b14
  obtain ⟨cnt, hcn, hx4⟩ := hR.cnt
  obtain ⟨⟨f, ho1⟩, ⟨fd, ho2⟩⟩ := id ho
  have htc : ∀ b, b < 6 → (fun b => (x 19 b 0).toNatClampNeg) b ≤ 1920 := fun b hb => hG.tc hb
  have hx19 : ∀ b, b < 6 → x 19 b 0 = nI ((fun b => (x 19 b 0).toNatClampNeg) b) := fun b hb => hG.x19 hb
  generalize (fun b => (x 19 b 0).toNatClampNeg) = tcs at htc hx19
  have hhr := hR.hr
  have hyh := hR.y1
  obtain ⟨a1, ea1⟩ : ∃ a, a = xs (nI (5 * t) + 1).toNatClampNeg := ⟨_, rfl⟩
  obtain ⟨a2, ea2⟩ : ∃ a, a = xs (nI (5 * t) + 2).toNatClampNeg := ⟨_, rfl⟩
  obtain ⟨a3, ea3⟩ : ∃ a, a = xs (nI (5 * t) + 3).toNatClampNeg := ⟨_, rfl⟩
  obtain ⟨a4, ea4⟩ : ∃ a, a = xs (nI (5 * t) + 4).toNatClampNeg := ⟨_, rfl⟩
  have ht9 : t < 512 := by omega
  refine lv_aload_n hx hb dL_law_1083 rfl (lv_at hl 1 rfl) ?_
  refine lv_aload_n hx hb dL_law_1084 rfl (lv_at hl 0 rfl) ?_
  refine lv_iload hx hb dL_law_1085 (lv_at hl 5 rfl) ?_
  refine lv_iconst (v := 1) hx hb dL_law_1087 (by decide) ?_
  refine lv_iadd hx hb dL_law_1088 ?_
  refine va_sld hx hb hX hbl hbA hS (i := (nI (5 * t)) + 1) (by rw [show nI (5 * t) + 1 = nI (5 * t + 1) from nI_add _ 1]; exact vp_in_nI (by omega) (by omega)) dL_law_1089 ?_
  rw [← ea1]
  refine lv_aload_n hx hb dL_law_1090 rfl (lv_at hl 0 rfl) ?_
  refine lv_iload hx hb dL_law_1091 (lv_at hl 5 rfl) ?_
  refine lv_iconst (v := 2) hx hb dL_law_1093 (by decide) ?_
  refine lv_iadd hx hb dL_law_1094 ?_
  refine va_sld hx hb hX hbl hbA hS (i := (nI (5 * t)) + 2) (by rw [show nI (5 * t) + 2 = nI (5 * t + 2) from nI_add _ 2]; exact vp_in_nI (by omega) (by omega)) dL_law_1095 ?_
  rw [← ea2]
  refine lv_aload_n hx hb dL_law_1096 rfl (lv_at hl 0 rfl) ?_
  refine lv_iload hx hb dL_law_1097 (lv_at hl 5 rfl) ?_
  refine lv_iconst (v := 3) hx hb dL_law_1099 (by decide) ?_
  refine lv_iadd hx hb dL_law_1100 ?_
  refine va_sld hx hb hX hbl hbA hS (i := (nI (5 * t)) + 3) (by rw [show nI (5 * t) + 3 = nI (5 * t + 3) from nI_add _ 3]; exact vp_in_nI (by omega) (by omega)) dL_law_1101 ?_
  rw [← ea3]
  refine lv_aload_n hx hb dL_law_1102 rfl (lv_at hl 3 rfl) ?_
  refine wx_calli (vx_runSW (As := [.ref (L 0), .int a1, .int a2, .int a3, .ref (L 123)]) (rest := []) ⟨hx, hb, hml, hown, hts⟩ (kl_cellAnew l hst g s.heap.size 125 L (by omega) x (mw g L y ch ro) nb hnb hx0 tcs htc hx19 a1 a2 a3 f ((mw_ge (by decide)).trans ho1)) (vx_cwSW 5 hts gL_law_L_cellAnew rfl rfl rfl (by decide +kernel) ⟨Nat.le_of_ble_eq_true rfl, Nat.le_of_ble_eq_true rfl⟩) (PW.preS3 (Nat.le_refl _) hJ hK hE hP hS) rfl rfl hl.1 rfl (lv_room (Nat.le_of_ble_eq_true rfl)) dL_law_1103 ⟨(by show _ ≤ 603072; omega), (by show _ ≤ 7215210; omega)⟩) hS (fun r1103 u1103 H locs h1103 hP hS => ?_)
  obtain ⟨ro2, e9, hc⟩ := c_cellAnew (nb := nb) (nn := nn) h1103
  rw [e9, cw_mw] at hP
  refine lv_istore (lv' := [(6, .int r1103), (0, .ref b), (1, .ref (L 0)), (2, .ref (L 106)), (3, .ref (L 123)), (4, .ref (L 124)), (5, .int (nI (5 * t)))]) hx hb dL_law_1106 hl (by decide) rfl (fun ls hl => ?_)
  refine lv_aload_n hx hb dL_law_1108 rfl (lv_at hl 3 rfl) ?_
  refine lv_aload_n hx hb dL_law_1109 rfl (lv_at hl 1 rfl) ?_
  refine lv_iload hx hb dL_law_1110 (lv_at hl 6 rfl) ?_
  refine lv_iconst (v := 1) hx hb dL_law_1112 (by decide) ?_
  refine lv_iadd hx hb dL_law_1113 ?_
  refine va_sld hx hb hX hbl hbA hS (i := (nI (5 * t)) + 1) (by rw [show nI (5 * t) + 1 = nI (5 * t + 1) from nI_add _ 1]; exact vp_in_nI (by omega) (by omega)) dL_law_1114 ?_
  rw [← ea1]
  refine lv_aload_n hx hb dL_law_1115 rfl (lv_at hl 1 rfl) ?_
  refine lv_iload hx hb dL_law_1116 (lv_at hl 6 rfl) ?_
  refine lv_iconst (v := 2) hx hb dL_law_1118 (by decide) ?_
  refine lv_iadd hx hb dL_law_1119 ?_
  refine va_sld hx hb hX hbl hbA hS (i := (nI (5 * t)) + 2) (by rw [show nI (5 * t) + 2 = nI (5 * t + 2) from nI_add _ 2]; exact vp_in_nI (by omega) (by omega)) dL_law_1120 ?_
  rw [← ea2]
  refine lv_aload_n hx hb dL_law_1121 rfl (lv_at hl 1 rfl) ?_
  refine lv_iload hx hb dL_law_1122 (lv_at hl 6 rfl) ?_
  refine lv_iconst (v := 3) hx hb dL_law_1124 (by decide) ?_
  refine lv_iadd hx hb dL_law_1125 ?_
  refine va_sld hx hb hX hbl hbA hS (i := (nI (5 * t)) + 3) (by rw [show nI (5 * t) + 3 = nI (5 * t + 3) from nI_add _ 3]; exact vp_in_nI (by omega) (by omega)) dL_law_1126 ?_
  rw [← ea3]
  refine wx_calli (va_runV (As := [.int a1, .int a2, .int a3]) (rest := []) ⟨hx, hb, hml, hown, hts⟩ (m_cellAnew l hst g s.heap.size 125 L (by omega) y ch (cw g L u1103.1 ro2) nb nn hR.mi a1 a2 a3) (cwV 3 hts gL_law_X4_cellAnew rfl rfl rfl (by decide +kernel) ⟨Nat.le_of_ble_eq_true rfl, Nat.le_of_ble_eq_true rfl⟩) (PW.preV3 (Nat.le_refl _) hJ hK hE hP hS (ci := 6) rfl (by omega) mw_o) rfl rfl hl.1 rfl (lv_room (Nat.le_of_ble_eq_true rfl)) dL_law_1127 ⟨(by show _ ≤ 603072; omega), (by show _ ≤ 7215210; omega)⟩) hS (fun r1127 u1127 H locs h1127 hP hS => ?_)
  obtain ⟨⟨nb2, nn2, hr2, hR2⟩, ho9⟩ := s_cellAnew (f := f) (r2 := r1127) ht9 hR ho htc hx19 hc h1127
  refine lv_istore (lv' := [(7, .int r1127), (6, .int r1103), (0, .ref b), (1, .ref (L 0)), (2, .ref (L 106)), (3, .ref (L 123)), (4, .ref (L 124)), (5, .int (nI (5 * t)))]) hx hb dL_law_1130 hl (by decide) rfl (fun ls hl => ?_)
  refine lv_goto (tgt := 1264) hx hb dL_law_1132 (by decide) ?_
  exact hnext _ _ _ _ _ _ _ _ _ _ _ _ hR2 ho9 (by omega) (by omega) (by rw [cw_mw]; exact hP) hS (lv_sub hl [2, 3, 4, 5, 6, 7] rfl)

set_option maxHeartbeats 8000000 in
set_option maxRecDepth 100000 in
theorem law_c26 {p : Program} {e : Env} {s : State} {m : MethodId} {below : List Frame} {meth : Method} {c : Code} (l : Launch) (hst : l.stackTraces = false) {b N : Nat} {xs : Nat → Int32} (hN : N ≤ 2560) (C0 : lw_At p s m meth c b N xs) (g : gE) (L : Nat → Nat) (hJ : wj 125 L (fun q : Nat => s.heap.size ≤ q)) (hK : va_K g.1 vwCl (tysC g) s) (hE : EE SS (fun q : Nat => s.heap.size ≤ q) s) {t : Nat} (ht : 5 * t + 5 ≤ N) {x y : St} {ch : Int64} {nb nn hr : Nat} {ro : Nat → va_E} (hR : R2 x y ch nb nn hr t) (ho : outOK g ro) {cl sl : Nat} (hcl : cl + 100 ≤ 603072) (hsl : sl + 1000 ≤ 7215210) {H : Heap} {locs : List Loc} (hP : va_P g.1 vwCl (wl 125 L (cw g L x (mw g L y ch ro))) H) (hS : va_S (fun q : Nat => s.heap.size ≤ q) s.heap H locs) {ls : Array Slot} (hl : lv_has ls 9 [(0, .ref b), (1, .ref (L 0)), (2, .ref (L 106)), (3, .ref (L 123)), (4, .ref (L 124)), (5, .int (nI (5 * t)))]) (hnext : ∀ (x2 y2 : St) (ch2 : Int64) (nb2 nn2 hr2 : Nat) (ro2 : Nat → va_E) (cl2 sl2 : Nat) (H : Heap) (locs : List Loc) (ls : Array Slot), R2 x2 y2 ch2 nb2 nn2 hr2 (t + 1) → outOK g ro2 → cl2 ≤ cl + 8 → sl2 ≤ sl + 48 → va_P g.1 vwCl (wl 125 L (cw g L x2 (mw g L y2 ch2 ro2))) H → va_S (fun q : Nat => s.heap.size ≤ q) s.heap H locs → lv_has ls 9 [(0, .ref b), (1, .ref (L 0)), (2, .ref (L 106)), (3, .ref (L 123)), (4, .ref (L 124)), (5, .int (nI (5 * t)))] → W p l e room_1 s m #[Value.ref b] below meth c H locs cl2 sl2 (lw_Z below #[Value.ref b] s) (F0 m 1264 ls [])) : W p l e room_1 s m #[Value.ref b] below meth c H locs cl sl (lw_Z below #[Value.ref b] s) (F0 m 1135 ls []) := by
  obtain ⟨hx, hb, hr9, hml, hown, hts0, hX, hbl, hlocks, hgv⟩ := id C0
  have hown : s.vm.findClass RL = some m.cls := hown
  have hts : ∀ w ∈ wsL_law, w.before #[Value.ref b] s = true := fun w h => hts0 w (wsL_law_in w h)
  have hbA : ¬ (fun q : Nat => s.heap.size ≤ q) b := Nat.not_le.mpr hbl
  have hn : 125 ≤ 125 := Nat.le_refl _
  have hG := hR.gi
  have hnb := hG.nb6
  have hx0 := hG.x0
  have hnn := hG.nn40
  have hx1 := hG.x1
  have hsh := hG.sh
  have hrk := hG.rk
  have hbz := hR.b14
  obtain ⟨cnt, hcn, hx4⟩ := hR.cnt
  obtain ⟨⟨f, ho1⟩, ⟨fd, ho2⟩⟩ := id ho
  have htc : ∀ b, b < 6 → (fun b => (x 19 b 0).toNatClampNeg) b ≤ 1920 := fun b hb => hG.tc hb
  have hx19 : ∀ b, b < 6 → x 19 b 0 = nI ((fun b => (x 19 b 0).toNatClampNeg) b) := fun b hb => hG.x19 hb
  generalize (fun b => (x 19 b 0).toNatClampNeg) = tcs at htc hx19
  have hhr := hR.hr
  have hyh := hR.y1
  obtain ⟨a1, ea1⟩ : ∃ a, a = xs (nI (5 * t) + 1).toNatClampNeg := ⟨_, rfl⟩
  obtain ⟨a2, ea2⟩ : ∃ a, a = xs (nI (5 * t) + 2).toNatClampNeg := ⟨_, rfl⟩
  obtain ⟨a3, ea3⟩ : ∃ a, a = xs (nI (5 * t) + 3).toNatClampNeg := ⟨_, rfl⟩
  obtain ⟨a4, ea4⟩ : ∃ a, a = xs (nI (5 * t) + 4).toNatClampNeg := ⟨_, rfl⟩
  have ht9 : t < 512 := by omega
  refine lv_aload_n hx hb dL_law_1135 rfl (lv_at hl 1 rfl) ?_
  refine wx_calll (va_runV (As := []) (rest := []) ⟨hx, hb, hml, hown, hts⟩ (k_changes l hst g s.heap.size 125 L (by omega) x (mw g L y ch ro) nb hnb hx0) (cwV 0 hts gL_law_X3_changes rfl rfl rfl (by decide +kernel) ⟨Nat.le_of_ble_eq_true rfl, Nat.le_of_ble_eq_true rfl⟩) (PW.preV3 (Nat.le_refl _) hJ hK hE hP hS (ci := 5) rfl (by omega) cw_d) rfl rfl hl.1 rfl (lv_room (Nat.le_of_ble_eq_true rfl)) dL_law_1136 ⟨(by show _ ≤ 603072; omega), (by show _ ≤ 7215210; omega)⟩) hS (fun r1136 u1136 H locs h1136 hP hS => ?_)
  rw [cw_mw] at hP
  refine lv_pop2_2 hx hb dL_law_1139 rfl ?_
  refine lv_aload_n hx hb dL_law_1140 rfl (lv_at hl 2 rfl) ?_
  refine wx_calll (va_runV (As := []) (rest := []) ⟨hx, hb, hml, hown, hts⟩ (m_changes l hst g s.heap.size 125 L (by omega) y ch (cw g L x ro) nb nn hR.mi ) (cwV 0 hts gL_law_X4_changes rfl rfl rfl (by decide +kernel) ⟨Nat.le_of_ble_eq_true rfl, Nat.le_of_ble_eq_true rfl⟩) (PW.preV3 (Nat.le_refl _) hJ hK hE hP hS (ci := 6) rfl (by omega) mw_o) rfl rfl hl.1 rfl (lv_room (Nat.le_of_ble_eq_true rfl)) dL_law_1141 ⟨(by show _ ≤ 603072; omega), (by show _ ≤ 7215210; omega)⟩) hS (fun r1141 u1141 H locs h1141 hP hS => ?_)
  have hR2 : R2 x u1141.1 u1141.2 nb nn hr (t + 1) := by rw [h1141.1]; exact (hR.up ht9).tz
  have ho9 : outOK g ro := ho
  refine lv_pop2_2 hx hb dL_law_1144 rfl ?_
  refine lv_goto (tgt := 1264) hx hb dL_law_1145 (by decide) ?_
  exact hnext _ _ _ _ _ _ _ _ _ _ _ _ hR2 ho9 (by omega) (by omega) (by rw [cw_mw]; exact hP) hS (lv_sub hl [0, 1, 2, 3, 4, 5] rfl)

set_option maxHeartbeats 8000000 in
set_option maxRecDepth 100000 in
theorem law_c27 {p : Program} {e : Env} {s : State} {m : MethodId} {below : List Frame} {meth : Method} {c : Code} (l : Launch) (hst : l.stackTraces = false) {b N : Nat} {xs : Nat → Int32} (hN : N ≤ 2560) (C0 : lw_At p s m meth c b N xs) (g : gE) (L : Nat → Nat) (hJ : wj 125 L (fun q : Nat => s.heap.size ≤ q)) (hK : va_K g.1 vwCl (tysC g) s) (hE : EE SS (fun q : Nat => s.heap.size ≤ q) s) {t : Nat} (ht : 5 * t + 5 ≤ N) {x y : St} {ch : Int64} {nb nn hr : Nat} {ro : Nat → va_E} (hR : R2 x y ch nb nn hr t) (ho : outOK g ro) {cl sl : Nat} (hcl : cl + 100 ≤ 603072) (hsl : sl + 1000 ≤ 7215210) {H : Heap} {locs : List Loc} (hP : va_P g.1 vwCl (wl 125 L (cw g L x (mw g L y ch ro))) H) (hS : va_S (fun q : Nat => s.heap.size ≤ q) s.heap H locs) {ls : Array Slot} (hl : lv_has ls 9 [(0, .ref b), (1, .ref (L 0)), (2, .ref (L 106)), (3, .ref (L 123)), (4, .ref (L 124)), (5, .int (nI (5 * t)))]) (hnext : ∀ (x2 y2 : St) (ch2 : Int64) (nb2 nn2 hr2 : Nat) (ro2 : Nat → va_E) (cl2 sl2 : Nat) (H : Heap) (locs : List Loc) (ls : Array Slot), R2 x2 y2 ch2 nb2 nn2 hr2 (t + 1) → outOK g ro2 → cl2 ≤ cl + 8 → sl2 ≤ sl + 48 → va_P g.1 vwCl (wl 125 L (cw g L x2 (mw g L y2 ch2 ro2))) H → va_S (fun q : Nat => s.heap.size ≤ q) s.heap H locs → lv_has ls 9 [(0, .ref b), (1, .ref (L 0)), (2, .ref (L 106)), (3, .ref (L 123)), (4, .ref (L 124)), (5, .int (nI (5 * t)))] → W p l e room_1 s m #[Value.ref b] below meth c H locs cl2 sl2 (lw_Z below #[Value.ref b] s) (F0 m 1264 ls [])) : W p l e room_1 s m #[Value.ref b] below meth c H locs cl sl (lw_Z below #[Value.ref b] s) (F0 m 1148 ls []) := by
  obtain ⟨hx, hb, hr9, hml, hown, hts0, hX, hbl, hlocks, hgv⟩ := id C0
  have hown : s.vm.findClass RL = some m.cls := hown
  have hts : ∀ w ∈ wsL_law, w.before #[Value.ref b] s = true := fun w h => hts0 w (wsL_law_in w h)
  have hbA : ¬ (fun q : Nat => s.heap.size ≤ q) b := Nat.not_le.mpr hbl
  have hn : 125 ≤ 125 := Nat.le_refl _
  have hG := hR.gi
  have hnb := hG.nb6
  have hx0 := hG.x0
  have hnn := hG.nn40
  have hx1 := hG.x1
  have hsh := hG.sh
  have hrk := hG.rk
  have hbz := hR.b14
  obtain ⟨cnt, hcn, hx4⟩ := hR.cnt
  obtain ⟨⟨f, ho1⟩, ⟨fd, ho2⟩⟩ := id ho
  have htc : ∀ b, b < 6 → (fun b => (x 19 b 0).toNatClampNeg) b ≤ 1920 := fun b hb => hG.tc hb
  have hx19 : ∀ b, b < 6 → x 19 b 0 = nI ((fun b => (x 19 b 0).toNatClampNeg) b) := fun b hb => hG.x19 hb
  generalize (fun b => (x 19 b 0).toNatClampNeg) = tcs at htc hx19
  have hhr := hR.hr
  have hyh := hR.y1
  obtain ⟨a1, ea1⟩ : ∃ a, a = xs (nI (5 * t) + 1).toNatClampNeg := ⟨_, rfl⟩
  obtain ⟨a2, ea2⟩ : ∃ a, a = xs (nI (5 * t) + 2).toNatClampNeg := ⟨_, rfl⟩
  obtain ⟨a3, ea3⟩ : ∃ a, a = xs (nI (5 * t) + 3).toNatClampNeg := ⟨_, rfl⟩
  obtain ⟨a4, ea4⟩ : ∃ a, a = xs (nI (5 * t) + 4).toNatClampNeg := ⟨_, rfl⟩
  have ht9 : t < 512 := by omega
  refine lv_aload_n hx hb dL_law_1148 rfl (lv_at hl 1 rfl) ?_
  refine lv_aload_n hx hb dL_law_1149 rfl (lv_at hl 0 rfl) ?_
  refine lv_iload hx hb dL_law_1150 (lv_at hl 5 rfl) ?_
  refine lv_iconst (v := 1) hx hb dL_law_1152 (by decide) ?_
  refine lv_iadd hx hb dL_law_1153 ?_
  refine va_sld hx hb hX hbl hbA hS (i := (nI (5 * t)) + 1) (by rw [show nI (5 * t) + 1 = nI (5 * t + 1) from nI_add _ 1]; exact vp_in_nI (by omega) (by omega)) dL_law_1154 ?_
  rw [← ea1]
  refine lv_aload_n hx hb dL_law_1155 rfl (lv_at hl 3 rfl) ?_
  refine wx_calli (vx_runSW (As := [.ref (L 0), .int a1, .ref (L 123)]) (rest := []) ⟨hx, hb, hml, hown, hts⟩ (kl_worst l hst g s.heap.size 125 L (by omega) x (mw g L y ch ro) nb hnb hx0 a1 f ((mw_ge (by decide)).trans ho1)) (vx_cwSW 3 hts gL_law_L_worst rfl rfl rfl (by decide +kernel) ⟨Nat.le_of_ble_eq_true rfl, Nat.le_of_ble_eq_true rfl⟩) (PW.preS3 (Nat.le_refl _) hJ hK hE hP hS) rfl rfl hl.1 rfl (lv_room (Nat.le_of_ble_eq_true rfl)) dL_law_1156 ⟨(by show _ ≤ 603072; omega), (by show _ ≤ 7215210; omega)⟩) hS (fun r1156 u1156 H locs h1156 hP hS => ?_)
  obtain ⟨ro2, e9, hc⟩ := c_worst (nb := nb) (nn := nn) h1156
  rw [e9, cw_mw] at hP
  refine lv_istore (lv' := [(6, .int r1156), (0, .ref b), (1, .ref (L 0)), (2, .ref (L 106)), (3, .ref (L 123)), (4, .ref (L 124)), (5, .int (nI (5 * t)))]) hx hb dL_law_1159 hl (by decide) rfl (fun ls hl => ?_)
  refine lv_aload_n hx hb dL_law_1161 rfl (lv_at hl 3 rfl) ?_
  refine lv_aload_n hx hb dL_law_1162 rfl (lv_at hl 1 rfl) ?_
  refine lv_iload hx hb dL_law_1163 (lv_at hl 6 rfl) ?_
  refine lv_iconst (v := 1) hx hb dL_law_1165 (by decide) ?_
  refine lv_iadd hx hb dL_law_1166 ?_
  refine va_sld hx hb hX hbl hbA hS (i := (nI (5 * t)) + 1) (by rw [show nI (5 * t) + 1 = nI (5 * t + 1) from nI_add _ 1]; exact vp_in_nI (by omega) (by omega)) dL_law_1167 ?_
  rw [← ea1]
  refine wx_calli (va_runV (As := [.int a1]) (rest := []) ⟨hx, hb, hml, hown, hts⟩ (m_worst l hst g s.heap.size 125 L (by omega) y ch (cw g L u1156.1 ro2) nb nn hR.mi a1) (cwV 1 hts gL_law_X4_worst rfl rfl rfl (by decide +kernel) ⟨Nat.le_of_ble_eq_true rfl, Nat.le_of_ble_eq_true rfl⟩) (PW.preV3 (Nat.le_refl _) hJ hK hE hP hS (ci := 6) rfl (by omega) mw_o) rfl rfl hl.1 rfl (lv_room (Nat.le_of_ble_eq_true rfl)) dL_law_1168 ⟨(by show _ ≤ 603072; omega), (by show _ ≤ 7215210; omega)⟩) hS (fun r1168 u1168 H locs h1168 hP hS => ?_)
  obtain ⟨⟨nb2, nn2, hr2, hR2⟩, ho9⟩ := s_worst (f := f) (r2 := r1168) ht9 hR ho hc h1168
  obtain ⟨hcd, hval⟩ := e_worst (f := f) (r2 := r1168) ht9 hR ho hc h1168
  refine lv_istore (lv' := [(7, .int r1168), (6, .int r1156), (0, .ref b), (1, .ref (L 0)), (2, .ref (L 106)), (3, .ref (L 123)), (4, .ref (L 124)), (5, .int (nI (5 * t)))]) hx hb dL_law_1171 hl (by decide) rfl (fun ls hl => ?_)
  refine lv_aload_n hx hb dL_law_1173 rfl (lv_at hl 4 rfl) ?_
  refine wx_calli (va_runV (As := []) (rest := []) ⟨hx, hb, hml, hown, hts⟩ (m_thrown l hst g s.heap.size 125 L (by omega) u1168.1 u1168.2 (cw g L u1156.1 ro2) _ _ hR2.mi ) (cwV 0 hts gL_law_X4_thrown rfl rfl rfl (by decide +kernel) ⟨Nat.le_of_ble_eq_true rfl, Nat.le_of_ble_eq_true rfl⟩) (PW.preV3 (Nat.le_refl _) hJ hK hE hP hS (ci := 6) rfl (by omega) mw_o) rfl rfl hl.1 rfl (lv_room (Nat.le_of_ble_eq_true rfl)) dL_law_1174 ⟨(by show _ ≤ 603072; omega), (by show _ ≤ 7215210; omega)⟩) hS (fun r1174 u1174 H locs h1174 hP hS => ?_)
  obtain ⟨et9, er9⟩ := h1174
  rw [et9] at hP
  have hP : va_P g.1 vwCl (wl 125 L (mw g L u1168.1 u1168.2 (cw g L u1156.1 ro2))) H := hP
  refine lv_iload hx hb dL_law_1177 (lv_at hl 1 rfl) ?_
  refine lv_icmp_eq (tgt := 1184) hx hb dL_law_1179 (by decide) (fun c1179 => ?_) (fun c1179 => absurd (er9.trans hcd) c1179)
  refine lv_iload hx hb dL_law_1184 (lv_at hl 1 rfl) ?_
  refine lv_if_ne (tgt := 1201) hx hb dL_law_1186 (by decide) (fun c1186 => ?_) (fun c1186 => ?_)
  · refine lv_goto (tgt := 1264) hx hb dL_law_1201 (by decide) ?_
    exact hnext _ _ _ _ _ _ _ _ _ _ _ _ hR2 ho9 (by omega) (by omega) (by rw [cw_mw]; exact hP) hS (lv_sub hl [2, 3, 4, 5, 6, 7] rfl)
  · obtain ⟨V9, eV9, hV9⟩ := hval c1186
    refine lv_aload_n hx hb dL_law_1189 rfl (lv_at hl 5 rfl) ?_
    refine lv_iconst (v := 0) hx hb dL_law_1190 (by decide) ?_
    refine wx_lald (D := g.1) (cl := vwCl) (f := vp_updL f (0 : Int32).toNatClampNeg V9) hx hb hK hP (123) 4 (by omega) ((mw_ge (by decide)).trans ((cw_ge (by decide)).trans (by rw [show ro2 = _ from eV9]; exact va_up_self _ _ _))) rfl (i := 0) (vp_in_nI (n := 0) (by decide) (by decide)) dL_law_1191 ?_
    refine lv_iload hx hb dL_law_1192 (lv_at hl 0 rfl) ?_
    refine lv_i2l hx hb dL_law_1194 rfl ?_
    refine W.lcmp hx hb dL_law_1195 ?_
    refine lv_if_eq (tgt := 1201) hx hb dL_law_1196 (by decide) (fun c1196 => ?_) (fun c1196 => absurd (by rw [pk_uLs, hV9, lgc]) c1196)
    refine lv_goto (tgt := 1264) hx hb dL_law_1201 (by decide) ?_
    exact hnext _ _ _ _ _ _ _ _ _ _ _ _ hR2 ho9 (by omega) (by omega) (by rw [cw_mw]; exact hP) hS (lv_sub hl [2, 3, 4, 5, 6, 7] rfl)

set_option maxHeartbeats 8000000 in
set_option maxRecDepth 100000 in
theorem law_c28 {p : Program} {e : Env} {s : State} {m : MethodId} {below : List Frame} {meth : Method} {c : Code} (l : Launch) (hst : l.stackTraces = false) {b N : Nat} {xs : Nat → Int32} (hN : N ≤ 2560) (C0 : lw_At p s m meth c b N xs) (g : gE) (L : Nat → Nat) (hJ : wj 125 L (fun q : Nat => s.heap.size ≤ q)) (hK : va_K g.1 vwCl (tysC g) s) (hE : EE SS (fun q : Nat => s.heap.size ≤ q) s) {t : Nat} (ht : 5 * t + 5 ≤ N) {x y : St} {ch : Int64} {nb nn hr : Nat} {ro : Nat → va_E} (hR : R2 x y ch nb nn hr t) (ho : outOK g ro) {cl sl : Nat} (hcl : cl + 100 ≤ 603072) (hsl : sl + 1000 ≤ 7215210) {H : Heap} {locs : List Loc} (hP : va_P g.1 vwCl (wl 125 L (cw g L x (mw g L y ch ro))) H) (hS : va_S (fun q : Nat => s.heap.size ≤ q) s.heap H locs) {ls : Array Slot} (hl : lv_has ls 9 [(0, .ref b), (1, .ref (L 0)), (2, .ref (L 106)), (3, .ref (L 123)), (4, .ref (L 124)), (5, .int (nI (5 * t)))]) (hnext : ∀ (x2 y2 : St) (ch2 : Int64) (nb2 nn2 hr2 : Nat) (ro2 : Nat → va_E) (cl2 sl2 : Nat) (H : Heap) (locs : List Loc) (ls : Array Slot), R2 x2 y2 ch2 nb2 nn2 hr2 (t + 1) → outOK g ro2 → cl2 ≤ cl + 8 → sl2 ≤ sl + 48 → va_P g.1 vwCl (wl 125 L (cw g L x2 (mw g L y2 ch2 ro2))) H → va_S (fun q : Nat => s.heap.size ≤ q) s.heap H locs → lv_has ls 9 [(0, .ref b), (1, .ref (L 0)), (2, .ref (L 106)), (3, .ref (L 123)), (4, .ref (L 124)), (5, .int (nI (5 * t)))] → W p l e room_1 s m #[Value.ref b] below meth c H locs cl2 sl2 (lw_Z below #[Value.ref b] s) (F0 m 1264 ls [])) : W p l e room_1 s m #[Value.ref b] below meth c H locs cl sl (lw_Z below #[Value.ref b] s) (F0 m 1204 ls []) := by
  obtain ⟨hx, hb, hr9, hml, hown, hts0, hX, hbl, hlocks, hgv⟩ := id C0
  have hown : s.vm.findClass RL = some m.cls := hown
  have hts : ∀ w ∈ wsL_law, w.before #[Value.ref b] s = true := fun w h => hts0 w (wsL_law_in w h)
  have hbA : ¬ (fun q : Nat => s.heap.size ≤ q) b := Nat.not_le.mpr hbl
  have hn : 125 ≤ 125 := Nat.le_refl _
  have hG := hR.gi
  have hnb := hG.nb6
  have hx0 := hG.x0
  have hnn := hG.nn40
  have hx1 := hG.x1
  have hsh := hG.sh
  have hrk := hG.rk
  have hbz := hR.b14
  obtain ⟨cnt, hcn, hx4⟩ := hR.cnt
  obtain ⟨⟨f, ho1⟩, ⟨fd, ho2⟩⟩ := id ho
  have htc : ∀ b, b < 6 → (fun b => (x 19 b 0).toNatClampNeg) b ≤ 1920 := fun b hb => hG.tc hb
  have hx19 : ∀ b, b < 6 → x 19 b 0 = nI ((fun b => (x 19 b 0).toNatClampNeg) b) := fun b hb => hG.x19 hb
  generalize (fun b => (x 19 b 0).toNatClampNeg) = tcs at htc hx19
  have hhr := hR.hr
  have hyh := hR.y1
  obtain ⟨a1, ea1⟩ : ∃ a, a = xs (nI (5 * t) + 1).toNatClampNeg := ⟨_, rfl⟩
  obtain ⟨a2, ea2⟩ : ∃ a, a = xs (nI (5 * t) + 2).toNatClampNeg := ⟨_, rfl⟩
  obtain ⟨a3, ea3⟩ : ∃ a, a = xs (nI (5 * t) + 3).toNatClampNeg := ⟨_, rfl⟩
  obtain ⟨a4, ea4⟩ : ∃ a, a = xs (nI (5 * t) + 4).toNatClampNeg := ⟨_, rfl⟩
  have ht9 : t < 512 := by omega
  refine lv_aload_n hx hb dL_law_1204 rfl (lv_at hl 1 rfl) ?_
  refine wx_calll (va_runV (As := []) (rest := []) ⟨hx, hb, hml, hown, hts⟩ (k_checksum l hst g s.heap.size 125 L (by omega) x (mw g L y ch ro) nb hnb hx0) (cwV 0 hts gL_law_X3_checksum rfl rfl rfl (by decide +kernel) ⟨Nat.le_of_ble_eq_true rfl, Nat.le_of_ble_eq_true rfl⟩) (PW.preV3 (Nat.le_refl _) hJ hK hE hP hS (ci := 5) rfl (by omega) cw_d) rfl rfl hl.1 rfl (lv_room (Nat.le_of_ble_eq_true rfl)) dL_law_1205 ⟨(by show _ ≤ 603072; omega), (by show _ ≤ 7215210; omega)⟩) hS (fun r1205 u1205 H locs h1205 hP hS => ?_)
  rw [cw_mw] at hP
  refine lv_pop2_2 hx hb dL_law_1208 rfl ?_
  refine lv_aload_n hx hb dL_law_1209 rfl (lv_at hl 2 rfl) ?_
  refine wx_calll (va_runV (As := []) (rest := []) ⟨hx, hb, hml, hown, hts⟩ (m_checksum l hst g s.heap.size 125 L (by omega) y ch (cw g L x ro) nb nn hR.mi ) (cwV 0 hts gL_law_X4_checksum rfl rfl rfl (by decide +kernel) ⟨Nat.le_of_ble_eq_true rfl, Nat.le_of_ble_eq_true rfl⟩) (PW.preV3 (Nat.le_refl _) hJ hK hE hP hS (ci := 6) rfl (by omega) mw_o) rfl rfl hl.1 rfl (lv_room (Nat.le_of_ble_eq_true rfl)) dL_law_1210 ⟨(by show _ ≤ 603072; omega), (by show _ ≤ 7215210; omega)⟩) hS (fun r1210 u1210 H locs h1210 hP hS => ?_)
  have hR2 : R2 x u1210.1 u1210.2 nb nn hr (t + 1) := by rw [h1210.1]; exact (hR.up ht9).tz
  have ho9 : outOK g ro := ho
  refine lv_pop2_2 hx hb dL_law_1213 rfl ?_
  refine lv_goto (tgt := 1264) hx hb dL_law_1214 (by decide) ?_
  exact hnext _ _ _ _ _ _ _ _ _ _ _ _ hR2 ho9 (by omega) (by omega) (by rw [cw_mw]; exact hP) hS (lv_sub hl [0, 1, 2, 3, 4, 5] rfl)

set_option maxHeartbeats 8000000 in
set_option maxRecDepth 100000 in
theorem law_c29 {p : Program} {e : Env} {s : State} {m : MethodId} {below : List Frame} {meth : Method} {c : Code} (l : Launch) (hst : l.stackTraces = false) {b N : Nat} {xs : Nat → Int32} (hN : N ≤ 2560) (C0 : lw_At p s m meth c b N xs) (g : gE) (L : Nat → Nat) (hJ : wj 125 L (fun q : Nat => s.heap.size ≤ q)) (hK : va_K g.1 vwCl (tysC g) s) (hE : EE SS (fun q : Nat => s.heap.size ≤ q) s) {t : Nat} (ht : 5 * t + 5 ≤ N) {x y : St} {ch : Int64} {nb nn hr : Nat} {ro : Nat → va_E} (hR : R2 x y ch nb nn hr t) (ho : outOK g ro) {cl sl : Nat} (hcl : cl + 100 ≤ 603072) (hsl : sl + 1000 ≤ 7215210) {H : Heap} {locs : List Loc} (hP : va_P g.1 vwCl (wl 125 L (cw g L x (mw g L y ch ro))) H) (hS : va_S (fun q : Nat => s.heap.size ≤ q) s.heap H locs) {ls : Array Slot} (hl : lv_has ls 9 [(0, .ref b), (1, .ref (L 0)), (2, .ref (L 106)), (3, .ref (L 123)), (4, .ref (L 124)), (5, .int (nI (5 * t)))]) (hnext : ∀ (x2 y2 : St) (ch2 : Int64) (nb2 nn2 hr2 : Nat) (ro2 : Nat → va_E) (cl2 sl2 : Nat) (H : Heap) (locs : List Loc) (ls : Array Slot), R2 x2 y2 ch2 nb2 nn2 hr2 (t + 1) → outOK g ro2 → cl2 ≤ cl + 8 → sl2 ≤ sl + 48 → va_P g.1 vwCl (wl 125 L (cw g L x2 (mw g L y2 ch2 ro2))) H → va_S (fun q : Nat => s.heap.size ≤ q) s.heap H locs → lv_has ls 9 [(0, .ref b), (1, .ref (L 0)), (2, .ref (L 106)), (3, .ref (L 123)), (4, .ref (L 124)), (5, .int (nI (5 * t)))] → W p l e room_1 s m #[Value.ref b] below meth c H locs cl2 sl2 (lw_Z below #[Value.ref b] s) (F0 m 1264 ls [])) : W p l e room_1 s m #[Value.ref b] below meth c H locs cl sl (lw_Z below #[Value.ref b] s) (F0 m 1217 ls []) := by
  obtain ⟨hx, hb, hr9, hml, hown, hts0, hX, hbl, hlocks, hgv⟩ := id C0
  have hown : s.vm.findClass RL = some m.cls := hown
  have hts : ∀ w ∈ wsL_law, w.before #[Value.ref b] s = true := fun w h => hts0 w (wsL_law_in w h)
  have hbA : ¬ (fun q : Nat => s.heap.size ≤ q) b := Nat.not_le.mpr hbl
  have hn : 125 ≤ 125 := Nat.le_refl _
  have hG := hR.gi
  have hnb := hG.nb6
  have hx0 := hG.x0
  have hnn := hG.nn40
  have hx1 := hG.x1
  have hsh := hG.sh
  have hrk := hG.rk
  have hbz := hR.b14
  obtain ⟨cnt, hcn, hx4⟩ := hR.cnt
  obtain ⟨⟨f, ho1⟩, ⟨fd, ho2⟩⟩ := id ho
  have htc : ∀ b, b < 6 → (fun b => (x 19 b 0).toNatClampNeg) b ≤ 1920 := fun b hb => hG.tc hb
  have hx19 : ∀ b, b < 6 → x 19 b 0 = nI ((fun b => (x 19 b 0).toNatClampNeg) b) := fun b hb => hG.x19 hb
  generalize (fun b => (x 19 b 0).toNatClampNeg) = tcs at htc hx19
  have hhr := hR.hr
  have hyh := hR.y1
  obtain ⟨a1, ea1⟩ : ∃ a, a = xs (nI (5 * t) + 1).toNatClampNeg := ⟨_, rfl⟩
  obtain ⟨a2, ea2⟩ : ∃ a, a = xs (nI (5 * t) + 2).toNatClampNeg := ⟨_, rfl⟩
  obtain ⟨a3, ea3⟩ : ∃ a, a = xs (nI (5 * t) + 3).toNatClampNeg := ⟨_, rfl⟩
  obtain ⟨a4, ea4⟩ : ∃ a, a = xs (nI (5 * t) + 4).toNatClampNeg := ⟨_, rfl⟩
  have hfn : nb ≠ 0 → vf_n32 (FP.fdiv (FP.i2f (ssF x nb)) (FP.i2f (x 0 0 0))) := fun h0 => by obtain ⟨c9, h1, h2⟩ := ss_nat x nb; rw [h2, hx0]; exact (shr_ok nb (by omega) h0 c9 (by omega)).1
  have hfd : nb ≠ 0 → vf_n64 (FP.f2d (FP.fdiv (FP.i2f (ssF x nb)) (FP.i2f (x 0 0 0)))) := fun h0 => by obtain ⟨c9, h1, h2⟩ := ss_nat x nb; rw [h2, hx0]; exact (shr_ok nb (by omega) h0 c9 (by omega)).2
  have hfnM : nb ≠ 0 → vf_n32 (FP.fdiv (FP.i2f (ssM (st y 0 0 0 0) nb)) (FP.i2f ((st y 0 0 0 0) 3 0 0))) := fun h0 => by obtain ⟨c9, h1, h2⟩ := cnP_nat (fun k => ¬ st y 0 0 0 0 12 0 k = -1) nb; rw [show ssM (st y 0 0 0 0) nb = nI c9 from h2, show (st y 0 0 0 0) 3 0 0 = nI nb from (st_nr (by omega)).trans hR.mi.y3]; exact (shr_ok nb (by omega) h0 c9 (by omega)).1
  have ht9 : t < 512 := by omega
  refine lv_aload_n hx hb dL_law_1217 rfl (lv_at hl 1 rfl) ?_
  refine lv_aload hx hb dL_law_1218 (lv_at hl 4 rfl) ?_
  refine wx_calli (vx_runSW (As := [.ref (L 0), .ref (L 124)]) (rest := []) ⟨hx, hb, hml, hown, hts⟩ (kl_shownShare l hst g s.heap.size 125 L (by omega) x (mw g L y ch ro) nb hnb hx0 hsh hfn hfd fd ((mw_ge (by decide)).trans ho2)) (vx_cwSW 2 hts gL_law_L_shownShare rfl rfl rfl (by decide +kernel) ⟨Nat.le_of_ble_eq_true rfl, Nat.le_of_ble_eq_true rfl⟩) (PW.preS3 (Nat.le_refl _) hJ hK hE hP hS) rfl rfl hl.1 rfl (lv_room (Nat.le_of_ble_eq_true rfl)) dL_law_1220 ⟨(by show _ ≤ 603072; omega), (by show _ ≤ 7215210; omega)⟩) hS (fun r1220 u1220 H locs h1220 hP hS => ?_)
  obtain ⟨ro2, e9, hc⟩ := c_shownShare (nb := nb) (nn := nn) h1220
  rw [e9, cw_mw] at hP
  refine lv_istore (lv' := [(6, .int r1220), (0, .ref b), (1, .ref (L 0)), (2, .ref (L 106)), (3, .ref (L 123)), (4, .ref (L 124)), (5, .int (nI (5 * t)))]) hx hb dL_law_1223 hl (by decide) rfl (fun ls hl => ?_)
  refine lv_aload_n hx hb dL_law_1225 rfl (lv_at hl 3 rfl) ?_
  refine wx_callf (va_runV (As := []) (rest := []) ⟨hx, hb, hml, hown, hts⟩ (m_shownShare l hst g s.heap.size 125 L (by omega) y ch (cw g L u1220.1 ro2) nb nn hR.mi hfnM ) (cwV 0 hts gL_law_X4_shownShare rfl rfl rfl (by decide +kernel) ⟨Nat.le_of_ble_eq_true rfl, Nat.le_of_ble_eq_true rfl⟩) (PW.preV3 (Nat.le_refl _) hJ hK hE hP hS (ci := 6) rfl (by omega) mw_o) rfl rfl hl.1 rfl (lv_room (Nat.le_of_ble_eq_true rfl)) dL_law_1226 ⟨(by show _ ≤ 603072; omega), (by show _ ≤ 7215210; omega)⟩) hS (fun r1226 u1226 H locs h1226 hP hS => ?_)
  obtain ⟨⟨nb2, nn2, hr2, hR2⟩, ho9⟩ := s_shownShare (f := fd) (r2 := r1226) ht9 hR ho hc h1226
  refine lv_fstore (lv' := [(7, .float r1226), (6, .int r1220), (0, .ref b), (1, .ref (L 0)), (2, .ref (L 106)), (3, .ref (L 123)), (4, .ref (L 124)), (5, .int (nI (5 * t)))]) hx hb dL_law_1229 hl (by decide) rfl (fun ls hl => ?_)
  refine lv_goto (tgt := 1264) hx hb dL_law_1231 (by decide) ?_
  exact hnext _ _ _ _ _ _ _ _ _ _ _ _ hR2 ho9 (by omega) (by omega) (by rw [cw_mw]; exact hP) hS (lv_sub hl [2, 3, 4, 5, 6, 7] rfl)

set_option maxHeartbeats 8000000 in
set_option maxRecDepth 100000 in
theorem law_c30 {p : Program} {e : Env} {s : State} {m : MethodId} {below : List Frame} {meth : Method} {c : Code} (l : Launch) (hst : l.stackTraces = false) {b N : Nat} {xs : Nat → Int32} (hN : N ≤ 2560) (C0 : lw_At p s m meth c b N xs) (g : gE) (L : Nat → Nat) (hJ : wj 125 L (fun q : Nat => s.heap.size ≤ q)) (hK : va_K g.1 vwCl (tysC g) s) (hE : EE SS (fun q : Nat => s.heap.size ≤ q) s) {t : Nat} (ht : 5 * t + 5 ≤ N) {x y : St} {ch : Int64} {nb nn hr : Nat} {ro : Nat → va_E} (hR : R2 x y ch nb nn hr t) (ho : outOK g ro) {cl sl : Nat} (hcl : cl + 100 ≤ 603072) (hsl : sl + 1000 ≤ 7215210) {H : Heap} {locs : List Loc} (hP : va_P g.1 vwCl (wl 125 L (cw g L x (mw g L y ch ro))) H) (hS : va_S (fun q : Nat => s.heap.size ≤ q) s.heap H locs) {ls : Array Slot} (hl : lv_has ls 9 [(0, .ref b), (1, .ref (L 0)), (2, .ref (L 106)), (3, .ref (L 123)), (4, .ref (L 124)), (5, .int (nI (5 * t)))]) (hnext : ∀ (x2 y2 : St) (ch2 : Int64) (nb2 nn2 hr2 : Nat) (ro2 : Nat → va_E) (cl2 sl2 : Nat) (H : Heap) (locs : List Loc) (ls : Array Slot), R2 x2 y2 ch2 nb2 nn2 hr2 (t + 1) → outOK g ro2 → cl2 ≤ cl + 8 → sl2 ≤ sl + 48 → va_P g.1 vwCl (wl 125 L (cw g L x2 (mw g L y2 ch2 ro2))) H → va_S (fun q : Nat => s.heap.size ≤ q) s.heap H locs → lv_has ls 9 [(0, .ref b), (1, .ref (L 0)), (2, .ref (L 106)), (3, .ref (L 123)), (4, .ref (L 124)), (5, .int (nI (5 * t)))] → W p l e room_1 s m #[Value.ref b] below meth c H locs cl2 sl2 (lw_Z below #[Value.ref b] s) (F0 m 1264 ls [])) : W p l e room_1 s m #[Value.ref b] below meth c H locs cl sl (lw_Z below #[Value.ref b] s) (F0 m 1234 ls []) := by
  obtain ⟨hx, hb, hr9, hml, hown, hts0, hX, hbl, hlocks, hgv⟩ := id C0
  have hown : s.vm.findClass RL = some m.cls := hown
  have hts : ∀ w ∈ wsL_law, w.before #[Value.ref b] s = true := fun w h => hts0 w (wsL_law_in w h)
  have hbA : ¬ (fun q : Nat => s.heap.size ≤ q) b := Nat.not_le.mpr hbl
  have hn : 125 ≤ 125 := Nat.le_refl _
  have hG := hR.gi
  have hnb := hG.nb6
  have hx0 := hG.x0
  have hnn := hG.nn40
  have hx1 := hG.x1
  have hsh := hG.sh
  have hrk := hG.rk
  have hbz := hR.b14
  obtain ⟨cnt, hcn, hx4⟩ := hR.cnt
  obtain ⟨⟨f, ho1⟩, ⟨fd, ho2⟩⟩ := id ho
  have htc : ∀ b, b < 6 → (fun b => (x 19 b 0).toNatClampNeg) b ≤ 1920 := fun b hb => hG.tc hb
  have hx19 : ∀ b, b < 6 → x 19 b 0 = nI ((fun b => (x 19 b 0).toNatClampNeg) b) := fun b hb => hG.x19 hb
  generalize (fun b => (x 19 b 0).toNatClampNeg) = tcs at htc hx19
  have hhr := hR.hr
  have hyh := hR.y1
  obtain ⟨a1, ea1⟩ : ∃ a, a = xs (nI (5 * t) + 1).toNatClampNeg := ⟨_, rfl⟩
  obtain ⟨a2, ea2⟩ : ∃ a, a = xs (nI (5 * t) + 2).toNatClampNeg := ⟨_, rfl⟩
  obtain ⟨a3, ea3⟩ : ∃ a, a = xs (nI (5 * t) + 3).toNatClampNeg := ⟨_, rfl⟩
  obtain ⟨a4, ea4⟩ : ∃ a, a = xs (nI (5 * t) + 4).toNatClampNeg := ⟨_, rfl⟩
  have hfn : nb ≠ 0 → vf_n64 (FP.ddiv (FP.l2d (chgF x nb)) (FP.i2d (x 0 0 0 * 32))) := fun h0 => div_nn (l2d_nn _) (by rw [hx0]; exact (den_ok nb (by omega) h0).1)
  have hfnM : nb ≠ 0 → vf_n64 (FP.ddiv (FP.i2d (swM (st y 0 0 0 0) (32 * nb))) (FP.i2d (32 * (st y 0 0 0 0) 3 0 0))) := fun h0 => div_nn (i2d_nn _) (by rw [show (st y 0 0 0 0) 3 0 0 = nI nb from (st_nr (by omega)).trans hR.mi.y3]; exact (den_ok nb (by omega) h0).2)
  have ht9 : t < 512 := by omega
  refine lv_aload_n hx hb dL_law_1234 rfl (lv_at hl 1 rfl) ?_
  refine lv_aload hx hb dL_law_1235 (lv_at hl 4 rfl) ?_
  refine wx_calli (vx_runSW (As := [.ref (L 0), .ref (L 124)]) (rest := []) ⟨hx, hb, hml, hown, hts⟩ (kl_meanWear l hst g s.heap.size 125 L (by omega) x (mw g L y ch ro) nb hnb hx0 hfn fd ((mw_ge (by decide)).trans ho2)) (vx_cwSW 2 hts gL_law_L_meanWear rfl rfl rfl (by decide +kernel) ⟨Nat.le_of_ble_eq_true rfl, Nat.le_of_ble_eq_true rfl⟩) (PW.preS3 (Nat.le_refl _) hJ hK hE hP hS) rfl rfl hl.1 rfl (lv_room (Nat.le_of_ble_eq_true rfl)) dL_law_1237 ⟨(by show _ ≤ 603072; omega), (by show _ ≤ 7215210; omega)⟩) hS (fun r1237 u1237 H locs h1237 hP hS => ?_)
  obtain ⟨ro2, e9, hc⟩ := c_meanWear (nb := nb) (nn := nn) h1237
  rw [e9, cw_mw] at hP
  refine lv_istore (lv' := [(6, .int r1237), (0, .ref b), (1, .ref (L 0)), (2, .ref (L 106)), (3, .ref (L 123)), (4, .ref (L 124)), (5, .int (nI (5 * t)))]) hx hb dL_law_1240 hl (by decide) rfl (fun ls hl => ?_)
  refine lv_aload_n hx hb dL_law_1242 rfl (lv_at hl 3 rfl) ?_
  refine wx_calld (va_runV (As := []) (rest := []) ⟨hx, hb, hml, hown, hts⟩ (m_meanWear l hst g s.heap.size 125 L (by omega) y ch (cw g L u1237.1 ro2) nb nn hR.mi hfnM ) (cwV 0 hts gL_law_X4_meanWear rfl rfl rfl (by decide +kernel) ⟨Nat.le_of_ble_eq_true rfl, Nat.le_of_ble_eq_true rfl⟩) (PW.preV3 (Nat.le_refl _) hJ hK hE hP hS (ci := 6) rfl (by omega) mw_o) rfl rfl hl.1 rfl (lv_room (Nat.le_of_ble_eq_true rfl)) dL_law_1243 ⟨(by show _ ≤ 603072; omega), (by show _ ≤ 7215210; omega)⟩) hS (fun r1243 u1243 H locs h1243 hP hS => ?_)
  obtain ⟨⟨nb2, nn2, hr2, hR2⟩, ho9⟩ := s_meanWear (f := fd) (r2 := r1243) ht9 hR ho hc h1243
  refine lv_dstore (lv' := [(7, .double r1243), (6, .int r1237), (0, .ref b), (1, .ref (L 0)), (2, .ref (L 106)), (3, .ref (L 123)), (4, .ref (L 124)), (5, .int (nI (5 * t)))]) hx hb dL_law_1246 hl (by decide) rfl (fun ls hl => ?_)
  refine lv_goto (tgt := 1264) hx hb dL_law_1248 (by decide) ?_
  exact hnext _ _ _ _ _ _ _ _ _ _ _ _ hR2 ho9 (by omega) (by omega) (by rw [cw_mw]; exact hP) hS (lv_sub hl [2, 3, 4, 5, 6, 7] rfl)

set_option maxHeartbeats 8000000 in
set_option maxRecDepth 100000 in
theorem law_c31 {p : Program} {e : Env} {s : State} {m : MethodId} {below : List Frame} {meth : Method} {c : Code} (l : Launch) (hst : l.stackTraces = false) {b N : Nat} {xs : Nat → Int32} (hN : N ≤ 2560) (C0 : lw_At p s m meth c b N xs) (g : gE) (L : Nat → Nat) (hJ : wj 125 L (fun q : Nat => s.heap.size ≤ q)) (hK : va_K g.1 vwCl (tysC g) s) (hE : EE SS (fun q : Nat => s.heap.size ≤ q) s) {t : Nat} (ht : 5 * t + 5 ≤ N) {x y : St} {ch : Int64} {nb nn hr : Nat} {ro : Nat → va_E} (hR : R2 x y ch nb nn hr t) (ho : outOK g ro) {cl sl : Nat} (hcl : cl + 100 ≤ 603072) (hsl : sl + 1000 ≤ 7215210) {H : Heap} {locs : List Loc} (hP : va_P g.1 vwCl (wl 125 L (cw g L x (mw g L y ch ro))) H) (hS : va_S (fun q : Nat => s.heap.size ≤ q) s.heap H locs) {ls : Array Slot} (hl : lv_has ls 9 [(0, .ref b), (1, .ref (L 0)), (2, .ref (L 106)), (3, .ref (L 123)), (4, .ref (L 124)), (5, .int (nI (5 * t)))]) (hnext : ∀ (x2 y2 : St) (ch2 : Int64) (nb2 nn2 hr2 : Nat) (ro2 : Nat → va_E) (cl2 sl2 : Nat) (H : Heap) (locs : List Loc) (ls : Array Slot), R2 x2 y2 ch2 nb2 nn2 hr2 (t + 1) → outOK g ro2 → cl2 ≤ cl + 8 → sl2 ≤ sl + 48 → va_P g.1 vwCl (wl 125 L (cw g L x2 (mw g L y2 ch2 ro2))) H → va_S (fun q : Nat => s.heap.size ≤ q) s.heap H locs → lv_has ls 9 [(0, .ref b), (1, .ref (L 0)), (2, .ref (L 106)), (3, .ref (L 123)), (4, .ref (L 124)), (5, .int (nI (5 * t)))] → W p l e room_1 s m #[Value.ref b] below meth c H locs cl2 sl2 (lw_Z below #[Value.ref b] s) (F0 m 1264 ls [])) : W p l e room_1 s m #[Value.ref b] below meth c H locs cl sl (lw_Z below #[Value.ref b] s) (F0 m 1251 ls []) := by
  obtain ⟨hx, hb, hr9, hml, hown, hts0, hX, hbl, hlocks, hgv⟩ := id C0
  have hown : s.vm.findClass RL = some m.cls := hown
  have hts : ∀ w ∈ wsL_law, w.before #[Value.ref b] s = true := fun w h => hts0 w (wsL_law_in w h)
  have hbA : ¬ (fun q : Nat => s.heap.size ≤ q) b := Nat.not_le.mpr hbl
  have hn : 125 ≤ 125 := Nat.le_refl _
  have hG := hR.gi
  have hnb := hG.nb6
  have hx0 := hG.x0
  have hnn := hG.nn40
  have hx1 := hG.x1
  have hsh := hG.sh
  have hrk := hG.rk
  have hbz := hR.b14
  obtain ⟨cnt, hcn, hx4⟩ := hR.cnt
  obtain ⟨⟨f, ho1⟩, ⟨fd, ho2⟩⟩ := id ho
  have htc : ∀ b, b < 6 → (fun b => (x 19 b 0).toNatClampNeg) b ≤ 1920 := fun b hb => hG.tc hb
  have hx19 : ∀ b, b < 6 → x 19 b 0 = nI ((fun b => (x 19 b 0).toNatClampNeg) b) := fun b hb => hG.x19 hb
  generalize (fun b => (x 19 b 0).toNatClampNeg) = tcs at htc hx19
  have hhr := hR.hr
  have hyh := hR.y1
  obtain ⟨a1, ea1⟩ : ∃ a, a = xs (nI (5 * t) + 1).toNatClampNeg := ⟨_, rfl⟩
  obtain ⟨a2, ea2⟩ : ∃ a, a = xs (nI (5 * t) + 2).toNatClampNeg := ⟨_, rfl⟩
  obtain ⟨a3, ea3⟩ : ∃ a, a = xs (nI (5 * t) + 3).toNatClampNeg := ⟨_, rfl⟩
  obtain ⟨a4, ea4⟩ : ∃ a, a = xs (nI (5 * t) + 4).toNatClampNeg := ⟨_, rfl⟩
  have ht9 : t < 512 := by omega
  refine lv_aload_n hx hb dL_law_1251 rfl (lv_at hl 1 rfl) ?_
  refine wx_calli (va_runV (As := []) (rest := []) ⟨hx, hb, hml, hown, hts⟩ (k_isSound l hst g s.heap.size 125 L (by omega) x (mw g L y ch ro) nb hnb hx0 hsh tcs htc hx19) (cwV 0 hts gL_law_X3_isSound rfl rfl rfl (by decide +kernel) ⟨Nat.le_of_ble_eq_true rfl, Nat.le_of_ble_eq_true rfl⟩) (PW.preV3 (Nat.le_refl _) hJ hK hE hP hS (ci := 5) rfl (by omega) cw_d) rfl rfl hl.1 rfl (lv_room (Nat.le_of_ble_eq_true rfl)) dL_law_1252 ⟨(by show _ ≤ 603072; omega), (by show _ ≤ 7215210; omega)⟩) hS (fun r1252 u1252 H locs h1252 hP hS => ?_)
  rw [cw_mw] at hP
  refine lv_pop hx hb dL_law_1255 rfl ?_
  refine lv_aload_n hx hb dL_law_1256 rfl (lv_at hl 2 rfl) ?_
  refine wx_calli (va_runV (As := []) (rest := []) ⟨hx, hb, hml, hown, hts⟩ (m_isSound l hst g s.heap.size 125 L (by omega) y ch (cw g L x ro) nb nn hR.mi ) (cwV 0 hts gL_law_X4_isSound rfl rfl rfl (by decide +kernel) ⟨Nat.le_of_ble_eq_true rfl, Nat.le_of_ble_eq_true rfl⟩) (PW.preV3 (Nat.le_refl _) hJ hK hE hP hS (ci := 6) rfl (by omega) mw_o) rfl rfl hl.1 rfl (lv_room (Nat.le_of_ble_eq_true rfl)) dL_law_1257 ⟨(by show _ ≤ 603072; omega), (by show _ ≤ 7215210; omega)⟩) hS (fun r1257 u1257 H locs h1257 hP hS => ?_)
  have hR2 : R2 x u1257.1 u1257.2 nb nn hr (t + 1) := by rw [h1257.1]; exact (hR.up ht9).tz
  have ho9 : outOK g ro := ho
  refine lv_pop hx hb dL_law_1260 rfl ?_
  refine lv_goto (tgt := 1264) hx hb dL_law_1261 (by decide) ?_
  exact hnext _ _ _ _ _ _ _ _ _ _ _ _ hR2 ho9 (by omega) (by omega) (by rw [cw_mw]; exact hP) hS (lv_sub hl [0, 1, 2, 3, 4, 5] rfl)

end LWC
