/-! laid by wip/gen -/
section LWC
set_option maxHeartbeats 8000000 in
set_option maxRecDepth 100000 in
theorem law_c16 {p : Program} {e : Env} {s : State} {m : MethodId} {below : List Frame} {meth : Method} {c : Code} (l : Launch) (hst : l.stackTraces = false) {b N : Nat} {xs : Nat → Int32} (hN : N ≤ 2560) (C0 : lw_At p s m meth c b N xs) (g : gE) (L : Nat → Nat) (hJ : wj 125 L (fun q : Nat => s.heap.size ≤ q)) (hK : va_K g.1 vwCl (tysC g) s) (hE : EE SS (fun q : Nat => s.heap.size ≤ q) s) {t : Nat} (ht : 5 * t + 5 ≤ N) {x y : St} {ch : Int64} {nb nn hr : Nat} {ro : Nat → va_E} (hR : R2 x y ch nb nn hr t) (ho : outOK g ro) {cl sl : Nat} (hcl : cl + 100 ≤ 603072) (hsl : sl + 1000 ≤ 7215210) {H : Heap} {locs : List Loc} (hP : va_P g.1 vwCl (wl 125 L (cw g L x (mw g L y ch ro))) H) (hS : va_S (fun q : Nat => s.heap.size ≤ q) s.heap H locs) {ls : Array Slot} (hl : lv_has ls 9 [(0, .ref b), (1, .ref (L 0)), (2, .ref (L 106)), (3, .ref (L 123)), (4, .ref (L 124)), (5, .int (nI (5 * t)))]) (hnext : ∀ (x2 y2 : St) (ch2 : Int64) (nb2 nn2 hr2 : Nat) (ro2 : Nat → va_E) (cl2 sl2 : Nat) (H : Heap) (locs : List Loc) (ls : Array Slot), R2 x2 y2 ch2 nb2 nn2 hr2 (t + 1) → outOK g ro2 → cl2 ≤ cl + 8 → sl2 ≤ sl + 48 → va_P g.1 vwCl (wl 125 L (cw g L x2 (mw g L y2 ch2 ro2))) H → va_S (fun q : Nat => s.heap.size ≤ q) s.heap H locs → lv_has ls 9 [(0, .ref b), (1, .ref (L 0)), (2, .ref (L 106)), (3, .ref (L 123)), (4, .ref (L 124)), (5, .int (nI (5 * t)))] → W p l e room_1 s m #[Value.ref b] below meth c H locs cl2 sl2 (lw_Z below #[Value.ref b] s) (F0 m 1271 ls [])) : W p l e room_1 s m #[Value.ref b] below meth c H locs cl sl (lw_Z below #[Value.ref b] s) (F0 m 839 ls []) := by
  obtain ⟨hx, hb, hr9, hml, hown, hts0, hX, hbl, hlocks, hgv⟩ := id C0
  have hown : s.vm.findClass RL = some m.cls := hown
  have hts : ∀ w ∈ wsL_law, w.before #[Value.ref b] s = true := fun w h => hts0 w (wsL_law_in w h)
  have hbA : ¬ (fun q : Nat => s.heap.size ≤ q) b := Nat.not_le.mpr hbl
  have hn : 125 ≤ 125 := Nat.le_refl _
  have hG := hR.gi
  have hnb := hG.nb6
  have hx0 := hG.x0
  have hnn := hG.nn40
  have hx1 := hG.x1
  have hsh := hG.sh
  have hrk := hG.rk
  have hbz := hR.b14
  obtain ⟨cnt, hcn, hx4⟩ := hR.cnt
  obtain ⟨⟨f, ho1⟩, ⟨fd, ho2⟩⟩ := id ho
  have htc : ∀ b, b < 6 → (fun b => (x 19 b 0).toNatClampNeg) b ≤ 1920 := fun b hb => hG.tc hb
  have hx19 : ∀ b, b < 6 → x 19 b 0 = nI ((fun b => (x 19 b 0).toNatClampNeg) b) := fun b hb => hG.x19 hb
  generalize (fun b => (x 19 b 0).toNatClampNeg) = tcs at htc hx19
  have hhr := hR.hr
  have hyh := hR.y1
  obtain ⟨a1, ea1⟩ : ∃ a, a = xs (nI (5 * t) + 1).toNatClampNeg := ⟨_, rfl⟩
  obtain ⟨a2, ea2⟩ : ∃ a, a = xs (nI (5 * t) + 2).toNatClampNeg := ⟨_, rfl⟩
  obtain ⟨a3, ea3⟩ : ∃ a, a = xs (nI (5 * t) + 3).toNatClampNeg := ⟨_, rfl⟩
  obtain ⟨a4, ea4⟩ : ∃ a, a = xs (nI (5 * t) + 4).toNatClampNeg := ⟨_, rfl⟩
  have ht9 : t < 512 := by omega
  refine lv_aload_n hx hb dL_law_839 rfl (lv_at hl 1 rfl) ?_
  refine lv_aload_n hx hb dL_law_840 rfl (lv_at hl 0 rfl) ?_
  refine lv_iload hx hb dL_law_841 (lv_at hl 5 rfl) ?_
  refine lv_iconst (v := 1) hx hb dL_law_843 (by decide) ?_
  refine lv_iadd hx hb dL_law_844 ?_
  refine va_sld hx hb hX hbl hbA hS (i := (nI (5 * t)) + 1) (by rw [show nI (5 * t) + 1 = nI (5 * t + 1) from nI_add _ 1]; exact vp_in_nI (by omega) (by omega)) dL_law_845 ?_
  rw [← ea1]
  refine lv_aload_n hx hb dL_law_846 rfl (lv_at hl 0 rfl) ?_
  refine lv_iload hx hb dL_law_847 (lv_at hl 5 rfl) ?_
  refine lv_iconst (v := 2) hx hb dL_law_849 (by decide) ?_
  refine lv_iadd hx hb dL_law_850 ?_
  refine va_sld hx hb hX hbl hbA hS (i := (nI (5 * t)) + 2) (by rw [show nI (5 * t) + 2 = nI (5 * t + 2) from nI_add _ 2]; exact vp_in_nI (by omega) (by omega)) dL_law_851 ?_
  rw [← ea2]
  refine lv_aload_n hx hb dL_law_852 rfl (lv_at hl 3 rfl) ?_
  refine wx_calli (vx_runSW (As := [.ref (L 0), .int a1, .int a2, .ref (L 123)]) (rest := []) ⟨hx, hb, hml, hown, hts⟩ (kl_pass l hst g s.heap.size 125 L (by omega) x (mw g L y ch ro) nb hnb hx0 hsh cnt hcn hx4 a1 a2 f ((mw_ge (by decide)).trans ho1)) (vx_cwSW 4 hts gL_law_L_pass rfl rfl rfl (by decide +kernel) ⟨Nat.le_of_ble_eq_true rfl, Nat.le_of_ble_eq_true rfl⟩) (PW.preS3 (Nat.le_refl _) hJ hK hE hP hS) rfl rfl hl.1 rfl (lv_room (Nat.le_of_ble_eq_true rfl)) dL_law_853 ⟨(by show _ ≤ 603072; omega), (by show _ ≤ 7215210; omega)⟩) hS (fun r853 u853 H locs h853 hP hS => ?_)
  obtain ⟨ro2, e9, hc⟩ := c_pass (nb := nb) (nn := nn) h853
  rw [e9, cw_mw] at hP
  refine lv_istore (lv' := [(6, .int r853), (0, .ref b), (1, .ref (L 0)), (2, .ref (L 106)), (3, .ref (L 123)), (4, .ref (L 124)), (5, .int (nI (5 * t)))]) hx hb dL_law_856 hl (by decide) rfl (fun ls hl => ?_)
  refine lv_aload_n hx hb dL_law_858 rfl (lv_at hl 3 rfl) ?_
  refine lv_aload_n hx hb dL_law_859 rfl (lv_at hl 1 rfl) ?_
  refine lv_iload hx hb dL_law_860 (lv_at hl 6 rfl) ?_
  refine lv_iconst (v := 1) hx hb dL_law_862 (by decide) ?_
  refine lv_iadd hx hb dL_law_863 ?_
  refine va_sld hx hb hX hbl hbA hS (i := (nI (5 * t)) + 1) (by rw [show nI (5 * t) + 1 = nI (5 * t + 1) from nI_add _ 1]; exact vp_in_nI (by omega) (by omega)) dL_law_864 ?_
  rw [← ea1]
  refine lv_aload_n hx hb dL_law_865 rfl (lv_at hl 1 rfl) ?_
  refine lv_iload hx hb dL_law_866 (lv_at hl 6 rfl) ?_
  refine lv_iconst (v := 2) hx hb dL_law_868 (by decide) ?_
  refine lv_iadd hx hb dL_law_869 ?_
  refine va_sld hx hb hX hbl hbA hS (i := (nI (5 * t)) + 2) (by rw [show nI (5 * t) + 2 = nI (5 * t + 2) from nI_add _ 2]; exact vp_in_nI (by omega) (by omega)) dL_law_870 ?_
  rw [← ea2]
  refine wx_calli (va_runV (As := [.int a1, .int a2]) (rest := []) ⟨hx, hb, hml, hown, hts⟩ (m_pass l hst g s.heap.size 125 L (by omega) y ch (cw g L u853.1 ro2) nb nn hR.mi hr hhr hyh a1 a2) (cwV 2 hts gL_law_X4_pass rfl rfl rfl (by decide +kernel) ⟨Nat.le_of_ble_eq_true rfl, Nat.le_of_ble_eq_true rfl⟩) (PW.preV3 (Nat.le_refl _) hJ hK hE hP hS (ci := 6) rfl (by omega) mw_o) rfl rfl hl.1 rfl (lv_room (Nat.le_of_ble_eq_true rfl)) dL_law_871 ⟨(by show _ ≤ 603072; omega), (by show _ ≤ 7215210; omega)⟩) hS (fun r871 u871 H locs h871 hP hS => ?_)
  obtain ⟨⟨nb2, nn2, hr2, hR2⟩, ho9⟩ := s_pass (f := f) (r2 := r871) ht9 hR ho hcn hx4 hc h871
  refine lv_istore (lv' := [(7, .int r871), (6, .int r853), (0, .ref b), (1, .ref (L 0)), (2, .ref (L 106)), (3, .ref (L 123)), (4, .ref (L 124)), (5, .int (nI (5 * t)))]) hx hb dL_law_874 hl (by decide) rfl (fun ls hl => ?_)
  refine lv_goto (tgt := 1271) hx hb dL_law_876 (by decide) ?_
  exact hnext _ _ _ _ _ _ _ _ _ _ _ _ hR2 ho9 (by omega) (by omega) (by rw [cw_mw]; exact hP) hS (lv_sub hl [2, 3, 4, 5, 6, 7] rfl)

set_option maxHeartbeats 8000000 in
set_option maxRecDepth 100000 in
theorem law_c17 {p : Program} {e : Env} {s : State} {m : MethodId} {below : List Frame} {meth : Method} {c : Code} (l : Launch) (hst : l.stackTraces = false) {b N : Nat} {xs : Nat → Int32} (hN : N ≤ 2560) (C0 : lw_At p s m meth c b N xs) (g : gE) (L : Nat → Nat) (hJ : wj 125 L (fun q : Nat => s.heap.size ≤ q)) (hK : va_K g.1 vwCl (tysC g) s) (hE : EE SS (fun q : Nat => s.heap.size ≤ q) s) {t : Nat} (ht : 5 * t + 5 ≤ N) {x y : St} {ch : Int64} {nb nn hr : Nat} {ro : Nat → va_E} (hR : R2 x y ch nb nn hr t) (ho : outOK g ro) {cl sl : Nat} (hcl : cl + 100 ≤ 603072) (hsl : sl + 1000 ≤ 7215210) {H : Heap} {locs : List Loc} (hP : va_P g.1 vwCl (wl 125 L (cw g L x (mw g L y ch ro))) H) (hS : va_S (fun q : Nat => s.heap.size ≤ q) s.heap H locs) {ls : Array Slot} (hl : lv_has ls 9 [(0, .ref b), (1, .ref (L 0)), (2, .ref (L 106)), (3, .ref (L 123)), (4, .ref (L 124)), (5, .int (nI (5 * t)))]) (hnext : ∀ (x2 y2 : St) (ch2 : Int64) (nb2 nn2 hr2 : Nat) (ro2 : Nat → va_E) (cl2 sl2 : Nat) (H : Heap) (locs : List Loc) (ls : Array Slot), R2 x2 y2 ch2 nb2 nn2 hr2 (t + 1) → outOK g ro2 → cl2 ≤ cl + 8 → sl2 ≤ sl + 48 → va_P g.1 vwCl (wl 125 L (cw g L x2 (mw g L y2 ch2 ro2))) H → va_S (fun q : Nat => s.heap.size ≤ q) s.heap H locs → lv_has ls 9 [(0, .ref b), (1, .ref (L 0)), (2, .ref (L 106)), (3, .ref (L 123)), (4, .ref (L 124)), (5, .int (nI (5 * t)))] → W p l e room_1 s m #[Value.ref b] below meth c H locs cl2 sl2 (lw_Z below #[Value.ref b] s) (F0 m 1271 ls [])) : W p l e room_1 s m #[Value.ref b] below meth c H locs cl sl (lw_Z below #[Value.ref b] s) (F0 m 879 ls []) := by
  obtain ⟨hx, hb, hr9, hml, hown, hts0, hX, hbl, hlocks, hgv⟩ := id C0
  have hown : s.vm.findClass RL = some m.cls := hown
  have hts : ∀ w ∈ wsL_law, w.before #[Value.ref b] s = true := fun w h => hts0 w (wsL_law_in w h)
  have hbA : ¬ (fun q : Nat => s.heap.size ≤ q) b := Nat.not_le.mpr hbl
  have hn : 125 ≤ 125 := Nat.le_refl _
  have hG := hR.gi
  have hnb := hG.nb6
  have hx0 := hG.x0
  have hnn := hG.nn40
  have hx1 := hG.x1
  have hsh := hG.sh
  have hrk := hG.rk
  have hbz := hR.b14
  obtain ⟨cnt, hcn, hx4⟩ := hR.cnt
  obtain ⟨⟨f, ho1⟩, ⟨fd, ho2⟩⟩ := id ho
  have htc : ∀ b, b < 6 → (fun b => (x 19 b 0).toNatClampNeg) b ≤ 1920 := fun b hb => hG.tc hb
  have hx19 : ∀ b, b < 6 → x 19 b 0 = nI ((fun b => (x 19 b 0).toNatClampNeg) b) := fun b hb => hG.x19 hb
  generalize (fun b => (x 19 b 0).toNatClampNeg) = tcs at htc hx19
  have hhr := hR.hr
  have hyh := hR.y1
  obtain ⟨a1, ea1⟩ : ∃ a, a = xs (nI (5 * t) + 1).toNatClampNeg := ⟨_, rfl⟩
  obtain ⟨a2, ea2⟩ : ∃ a, a = xs (nI (5 * t) + 2).toNatClampNeg := ⟨_, rfl⟩
  obtain ⟨a3, ea3⟩ : ∃ a, a = xs (nI (5 * t) + 3).toNatClampNeg := ⟨_, rfl⟩
  obtain ⟨a4, ea4⟩ : ∃ a, a = xs (nI (5 * t) + 4).toNatClampNeg := ⟨_, rfl⟩
  have ht9 : t < 512 := by omega
  refine lv_aload_n hx hb dL_law_879 rfl (lv_at hl 1 rfl) ?_
  refine lv_aload_n hx hb dL_law_880 rfl (lv_at hl 0 rfl) ?_
  refine lv_iload hx hb dL_law_881 (lv_at hl 5 rfl) ?_
  refine lv_iconst (v := 1) hx hb dL_law_883 (by decide) ?_
  refine lv_iadd hx hb dL_law_884 ?_
  refine va_sld hx hb hX hbl hbA hS (i := (nI (5 * t)) + 1) (by rw [show nI (5 * t) + 1 = nI (5 * t + 1) from nI_add _ 1]; exact vp_in_nI (by omega) (by omega)) dL_law_885 ?_
  rw [← ea1]
  refine lv_aload_n hx hb dL_law_886 rfl (lv_at hl 0 rfl) ?_
  refine lv_iload hx hb dL_law_887 (lv_at hl 5 rfl) ?_
  refine lv_iconst (v := 2) hx hb dL_law_889 (by decide) ?_
  refine lv_iadd hx hb dL_law_890 ?_
  refine va_sld hx hb hX hbl hbA hS (i := (nI (5 * t)) + 2) (by rw [show nI (5 * t) + 2 = nI (5 * t + 2) from nI_add _ 2]; exact vp_in_nI (by omega) (by omega)) dL_law_891 ?_
  rw [← ea2]
  refine lv_aload_n hx hb dL_law_892 rfl (lv_at hl 3 rfl) ?_
  refine wx_calli (vx_runSW (As := [.ref (L 0), .int a1, .int a2, .ref (L 123)]) (rest := []) ⟨hx, hb, hml, hown, hts⟩ (kl_readers l hst g s.heap.size 125 L (by omega) x (mw g L y ch ro) nb hnb hx0 nn hnn hx1 a1 a2 f ((mw_ge (by decide)).trans ho1)) (vx_cwSW 4 hts gL_law_L_readers rfl rfl rfl (by decide +kernel) ⟨Nat.le_of_ble_eq_true rfl, Nat.le_of_ble_eq_true rfl⟩) (PW.preS3 (Nat.le_refl _) hJ hK hE hP hS) rfl rfl hl.1 rfl (lv_room (Nat.le_of_ble_eq_true rfl)) dL_law_893 ⟨(by show _ ≤ 603072; omega), (by show _ ≤ 7215210; omega)⟩) hS (fun r893 u893 H locs h893 hP hS => ?_)
  obtain ⟨ro2, e9, hc⟩ := c_readers (nb := nb) (nn := nn) h893
  rw [e9, cw_mw] at hP
  refine lv_istore (lv' := [(6, .int r893), (0, .ref b), (1, .ref (L 0)), (2, .ref (L 106)), (3, .ref (L 123)), (4, .ref (L 124)), (5, .int (nI (5 * t)))]) hx hb dL_law_896 hl (by decide) rfl (fun ls hl => ?_)
  refine lv_aload_n hx hb dL_law_898 rfl (lv_at hl 3 rfl) ?_
  refine lv_aload_n hx hb dL_law_899 rfl (lv_at hl 1 rfl) ?_
  refine lv_iload hx hb dL_law_900 (lv_at hl 6 rfl) ?_
  refine lv_iconst (v := 1) hx hb dL_law_902 (by decide) ?_
  refine lv_iadd hx hb dL_law_903 ?_
  refine va_sld hx hb hX hbl hbA hS (i := (nI (5 * t)) + 1) (by rw [show nI (5 * t) + 1 = nI (5 * t + 1) from nI_add _ 1]; exact vp_in_nI (by omega) (by omega)) dL_law_904 ?_
  rw [← ea1]
  refine lv_aload_n hx hb dL_law_905 rfl (lv_at hl 1 rfl) ?_
  refine lv_iload hx hb dL_law_906 (lv_at hl 6 rfl) ?_
  refine lv_iconst (v := 2) hx hb dL_law_908 (by decide) ?_
  refine lv_iadd hx hb dL_law_909 ?_
  refine va_sld hx hb hX hbl hbA hS (i := (nI (5 * t)) + 2) (by rw [show nI (5 * t) + 2 = nI (5 * t + 2) from nI_add _ 2]; exact vp_in_nI (by omega) (by omega)) dL_law_910 ?_
  rw [← ea2]
  refine wx_calli (va_runV (As := [.int a1, .int a2]) (rest := []) ⟨hx, hb, hml, hown, hts⟩ (m_readers l hst g s.heap.size 125 L (by omega) y ch (cw g L u893.1 ro2) nb nn hR.mi a1 a2) (cwV 2 hts gL_law_X4_readers rfl rfl rfl (by decide +kernel) ⟨Nat.le_of_ble_eq_true rfl, Nat.le_of_ble_eq_true rfl⟩) (PW.preV3 (Nat.le_refl _) hJ hK hE hP hS (ci := 6) rfl (by omega) mw_o) rfl rfl hl.1 rfl (lv_room (Nat.le_of_ble_eq_true rfl)) dL_law_911 ⟨(by show _ ≤ 603072; omega), (by show _ ≤ 7215210; omega)⟩) hS (fun r911 u911 H locs h911 hP hS => ?_)
  obtain ⟨⟨nb2, nn2, hr2, hR2⟩, ho9⟩ := s_readers (f := f) (r2 := r911) ht9 hR ho hc h911
  refine lv_istore (lv' := [(7, .int r911), (6, .int r893), (0, .ref b), (1, .ref (L 0)), (2, .ref (L 106)), (3, .ref (L 123)), (4, .ref (L 124)), (5, .int (nI (5 * t)))]) hx hb dL_law_914 hl (by decide) rfl (fun ls hl => ?_)
  refine lv_goto (tgt := 1271) hx hb dL_law_916 (by decide) ?_
  exact hnext _ _ _ _ _ _ _ _ _ _ _ _ hR2 ho9 (by omega) (by omega) (by rw [cw_mw]; exact hP) hS (lv_sub hl [2, 3, 4, 5, 6, 7] rfl)

set_option maxHeartbeats 8000000 in
set_option maxRecDepth 100000 in
theorem law_c18 {p : Program} {e : Env} {s : State} {m : MethodId} {below : List Frame} {meth : Method} {c : Code} (l : Launch) (hst : l.stackTraces = false) {b N : Nat} {xs : Nat → Int32} (hN : N ≤ 2560) (C0 : lw_At p s m meth c b N xs) (g : gE) (L : Nat → Nat) (hJ : wj 125 L (fun q : Nat => s.heap.size ≤ q)) (hK : va_K g.1 vwCl (tysC g) s) (hE : EE SS (fun q : Nat => s.heap.size ≤ q) s) {t : Nat} (ht : 5 * t + 5 ≤ N) {x y : St} {ch : Int64} {nb nn hr : Nat} {ro : Nat → va_E} (hR : R2 x y ch nb nn hr t) (ho : outOK g ro) {cl sl : Nat} (hcl : cl + 100 ≤ 603072) (hsl : sl + 1000 ≤ 7215210) {H : Heap} {locs : List Loc} (hP : va_P g.1 vwCl (wl 125 L (cw g L x (mw g L y ch ro))) H) (hS : va_S (fun q : Nat => s.heap.size ≤ q) s.heap H locs) {ls : Array Slot} (hl : lv_has ls 9 [(0, .ref b), (1, .ref (L 0)), (2, .ref (L 106)), (3, .ref (L 123)), (4, .ref (L 124)), (5, .int (nI (5 * t)))]) (hnext : ∀ (x2 y2 : St) (ch2 : Int64) (nb2 nn2 hr2 : Nat) (ro2 : Nat → va_E) (cl2 sl2 : Nat) (H : Heap) (locs : List Loc) (ls : Array Slot), R2 x2 y2 ch2 nb2 nn2 hr2 (t + 1) → outOK g ro2 → cl2 ≤ cl + 8 → sl2 ≤ sl + 48 → va_P g.1 vwCl (wl 125 L (cw g L x2 (mw g L y2 ch2 ro2))) H → va_S (fun q : Nat => s.heap.size ≤ q) s.heap H locs → lv_has ls 9 [(0, .ref b), (1, .ref (L 0)), (2, .ref (L 106)), (3, .ref (L 123)), (4, .ref (L 124)), (5, .int (nI (5 * t)))] → W p l e room_1 s m #[Value.ref b] below meth c H locs cl2 sl2 (lw_Z below #[Value.ref b] s) (F0 m 1271 ls [])) : W p l e room_1 s m #[Value.ref b] below meth c H locs cl sl (lw_Z below #[Value.ref b] s) (F0 m 919 ls []) := by
  obtain ⟨hx, hb, hr9, hml, hown, hts0, hX, hbl, hlocks, hgv⟩ := id C0
  have hown : s.vm.findClass RL = some m.cls := hown
  have hts : ∀ w ∈ wsL_law, w.before #[Value.ref b] s = true := fun w h => hts0 w (wsL_law_in w h)
  have hbA : ¬ (fun q : Nat => s.heap.size ≤ q) b := Nat.not_le.mpr hbl
  have hn : 125 ≤ 125 := Nat.le_refl _
  have hG := hR.gi
  have hnb := hG.nb6
  have hx0 := hG.x0
  have hnn := hG.nn40
  have hx1 := hG.x1
  have hsh := hG.sh
  have hrk := hG.rk
  have hbz := hR.b14
  obtain ⟨cnt, hcn, hx4⟩ := hR.cnt
  obtain ⟨⟨f, ho1⟩, ⟨fd, ho2⟩⟩ := id ho
  have htc : ∀ b, b < 6 → (fun b => (x 19 b 0).toNatClampNeg) b ≤ 1920 := fun b hb => hG.tc hb
  have hx19 : ∀ b, b < 6 → x 19 b 0 = nI ((fun b => (x 19 b 0).toNatClampNeg) b) := fun b hb => hG.x19 hb
  generalize (fun b => (x 19 b 0).toNatClampNeg) = tcs at htc hx19
  have hhr := hR.hr
  have hyh := hR.y1
  obtain ⟨a1, ea1⟩ : ∃ a, a = xs (nI (5 * t) + 1).toNatClampNeg := ⟨_, rfl⟩
  obtain ⟨a2, ea2⟩ : ∃ a, a = xs (nI (5 * t) + 2).toNatClampNeg := ⟨_, rfl⟩
  obtain ⟨a3, ea3⟩ : ∃ a, a = xs (nI (5 * t) + 3).toNatClampNeg := ⟨_, rfl⟩
  obtain ⟨a4, ea4⟩ : ∃ a, a = xs (nI (5 * t) + 4).toNatClampNeg := ⟨_, rfl⟩
  have ht9 : t < 512 := by omega
  refine lv_aload_n hx hb dL_law_919 rfl (lv_at hl 1 rfl) ?_
  refine lv_aload_n hx hb dL_law_920 rfl (lv_at hl 0 rfl) ?_
  refine lv_iload hx hb dL_law_921 (lv_at hl 5 rfl) ?_
  refine lv_iconst (v := 1) hx hb dL_law_923 (by decide) ?_
  refine lv_iadd hx hb dL_law_924 ?_
  refine va_sld hx hb hX hbl hbA hS (i := (nI (5 * t)) + 1) (by rw [show nI (5 * t) + 1 = nI (5 * t + 1) from nI_add _ 1]; exact vp_in_nI (by omega) (by omega)) dL_law_925 ?_
  rw [← ea1]
  refine lv_aload_n hx hb dL_law_926 rfl (lv_at hl 0 rfl) ?_
  refine lv_iload hx hb dL_law_927 (lv_at hl 5 rfl) ?_
  refine lv_iconst (v := 2) hx hb dL_law_929 (by decide) ?_
  refine lv_iadd hx hb dL_law_930 ?_
  refine va_sld hx hb hX hbl hbA hS (i := (nI (5 * t)) + 2) (by rw [show nI (5 * t) + 2 = nI (5 * t + 2) from nI_add _ 2]; exact vp_in_nI (by omega) (by omega)) dL_law_931 ?_
  rw [← ea2]
  refine lv_aload_n hx hb dL_law_932 rfl (lv_at hl 3 rfl) ?_
  refine wx_calli (vx_runSW (As := [.ref (L 0), .int a1, .int a2, .ref (L 123)]) (rest := []) ⟨hx, hb, hml, hown, hts⟩ (kl_readIn l hst g s.heap.size 125 L (by omega) x (mw g L y ch ro) nn hnn hx1 cnt hcn hx4 a1 a2 f ((mw_ge (by decide)).trans ho1)) (vx_cwSW 4 hts gL_law_L_readIn rfl rfl rfl (by decide +kernel) ⟨Nat.le_of_ble_eq_true rfl, Nat.le_of_ble_eq_true rfl⟩) (PW.preS3 (Nat.le_refl _) hJ hK hE hP hS) rfl rfl hl.1 rfl (lv_room (Nat.le_of_ble_eq_true rfl)) dL_law_933 ⟨(by show _ ≤ 603072; omega), (by show _ ≤ 7215210; omega)⟩) hS (fun r933 u933 H locs h933 hP hS => ?_)
  obtain ⟨ro2, e9, hc⟩ := c_readIn (nb := nb) (nn := nn) h933
  rw [e9, cw_mw] at hP
  refine lv_istore (lv' := [(6, .int r933), (0, .ref b), (1, .ref (L 0)), (2, .ref (L 106)), (3, .ref (L 123)), (4, .ref (L 124)), (5, .int (nI (5 * t)))]) hx hb dL_law_936 hl (by decide) rfl (fun ls hl => ?_)
  refine lv_aload_n hx hb dL_law_938 rfl (lv_at hl 3 rfl) ?_
  refine lv_aload_n hx hb dL_law_939 rfl (lv_at hl 1 rfl) ?_
  refine lv_iload hx hb dL_law_940 (lv_at hl 6 rfl) ?_
  refine lv_iconst (v := 1) hx hb dL_law_942 (by decide) ?_
  refine lv_iadd hx hb dL_law_943 ?_
  refine va_sld hx hb hX hbl hbA hS (i := (nI (5 * t)) + 1) (by rw [show nI (5 * t) + 1 = nI (5 * t + 1) from nI_add _ 1]; exact vp_in_nI (by omega) (by omega)) dL_law_944 ?_
  rw [← ea1]
  refine lv_aload_n hx hb dL_law_945 rfl (lv_at hl 1 rfl) ?_
  refine lv_iload hx hb dL_law_946 (lv_at hl 6 rfl) ?_
  refine lv_iconst (v := 2) hx hb dL_law_948 (by decide) ?_
  refine lv_iadd hx hb dL_law_949 ?_
  refine va_sld hx hb hX hbl hbA hS (i := (nI (5 * t)) + 2) (by rw [show nI (5 * t) + 2 = nI (5 * t + 2) from nI_add _ 2]; exact vp_in_nI (by omega) (by omega)) dL_law_950 ?_
  rw [← ea2]
  refine wx_calli (va_runV (As := [.int a1, .int a2]) (rest := []) ⟨hx, hb, hml, hown, hts⟩ (m_readIn l hst g s.heap.size 125 L (by omega) y ch (cw g L u933.1 ro2) nb nn hR.mi a1 a2) (cwV 2 hts gL_law_X4_readIn rfl rfl rfl (by decide +kernel) ⟨Nat.le_of_ble_eq_true rfl, Nat.le_of_ble_eq_true rfl⟩) (PW.preV3 (Nat.le_refl _) hJ hK hE hP hS (ci := 6) rfl (by omega) mw_o) rfl rfl hl.1 rfl (lv_room (Nat.le_of_ble_eq_true rfl)) dL_law_951 ⟨(by show _ ≤ 603072; omega), (by show _ ≤ 7215210; omega)⟩) hS (fun r951 u951 H locs h951 hP hS => ?_)
  obtain ⟨⟨nb2, nn2, hr2, hR2⟩, ho9⟩ := s_readIn (f := f) (r2 := r951) ht9 hR ho hcn hx4 hc h951
  refine lv_istore (lv' := [(7, .int r951), (6, .int r933), (0, .ref b), (1, .ref (L 0)), (2, .ref (L 106)), (3, .ref (L 123)), (4, .ref (L 124)), (5, .int (nI (5 * t)))]) hx hb dL_law_954 hl (by decide) rfl (fun ls hl => ?_)
  refine lv_goto (tgt := 1271) hx hb dL_law_956 (by decide) ?_
  exact hnext _ _ _ _ _ _ _ _ _ _ _ _ hR2 ho9 (by omega) (by omega) (by rw [cw_mw]; exact hP) hS (lv_sub hl [2, 3, 4, 5, 6, 7] rfl)

set_option maxHeartbeats 8000000 in
set_option maxRecDepth 100000 in
theorem law_c19 {p : Program} {e : Env} {s : State} {m : MethodId} {below : List Frame} {meth : Method} {c : Code} (l : Launch) (hst : l.stackTraces = false) {b N : Nat} {xs : Nat → Int32} (hN : N ≤ 2560) (C0 : lw_At p s m meth c b N xs) (g : gE) (L : Nat → Nat) (hJ : wj 125 L (fun q : Nat => s.heap.size ≤ q)) (hK : va_K g.1 vwCl (tysC g) s) (hE : EE SS (fun q : Nat => s.heap.size ≤ q) s) {t : Nat} (ht : 5 * t + 5 ≤ N) {x y : St} {ch : Int64} {nb nn hr : Nat} {ro : Nat → va_E} (hR : R2 x y ch nb nn hr t) (ho : outOK g ro) {cl sl : Nat} (hcl : cl + 100 ≤ 603072) (hsl : sl + 1000 ≤ 7215210) {H : Heap} {locs : List Loc} (hP : va_P g.1 vwCl (wl 125 L (cw g L x (mw g L y ch ro))) H) (hS : va_S (fun q : Nat => s.heap.size ≤ q) s.heap H locs) {ls : Array Slot} (hl : lv_has ls 9 [(0, .ref b), (1, .ref (L 0)), (2, .ref (L 106)), (3, .ref (L 123)), (4, .ref (L 124)), (5, .int (nI (5 * t)))]) (hnext : ∀ (x2 y2 : St) (ch2 : Int64) (nb2 nn2 hr2 : Nat) (ro2 : Nat → va_E) (cl2 sl2 : Nat) (H : Heap) (locs : List Loc) (ls : Array Slot), R2 x2 y2 ch2 nb2 nn2 hr2 (t + 1) → outOK g ro2 → cl2 ≤ cl + 8 → sl2 ≤ sl + 48 → va_P g.1 vwCl (wl 125 L (cw g L x2 (mw g L y2 ch2 ro2))) H → va_S (fun q : Nat => s.heap.size ≤ q) s.heap H locs → lv_has ls 9 [(0, .ref b), (1, .ref (L 0)), (2, .ref (L 106)), (3, .ref (L 123)), (4, .ref (L 124)), (5, .int (nI (5 * t)))] → W p l e room_1 s m #[Value.ref b] below meth c H locs cl2 sl2 (lw_Z below #[Value.ref b] s) (F0 m 1271 ls [])) : W p l e room_1 s m #[Value.ref b] below meth c H locs cl sl (lw_Z below #[Value.ref b] s) (F0 m 959 ls []) := by
  obtain ⟨hx, hb, hr9, hml, hown, hts0, hX, hbl, hlocks, hgv⟩ := id C0
  have hown : s.vm.findClass RL = some m.cls := hown
  have hts : ∀ w ∈ wsL_law, w.before #[Value.ref b] s = true := fun w h => hts0 w (wsL_law_in w h)
  have hbA : ¬ (fun q : Nat => s.heap.size ≤ q) b := Nat.not_le.mpr hbl
  have hn : 125 ≤ 125 := Nat.le_refl _
  have hG := hR.gi
  have hnb := hG.nb6
  have hx0 := hG.x0
  have hnn := hG.nn40
  have hx1 := hG.x1
  have hsh := hG.sh
  have hrk := hG.rk
  have hbz := hR.b14
  obtain ⟨cnt, hcn, hx4⟩ := hR.cnt
  obtain ⟨⟨f, ho1⟩, ⟨fd, ho2⟩⟩ := id ho
  have htc : ∀ b, b < 6 → (fun b => (x 19 b 0).toNatClampNeg) b ≤ 1920 := fun b hb => hG.tc hb
  have hx19 : ∀ b, b < 6 → x 19 b 0 = nI ((fun b => (x 19 b 0).toNatClampNeg) b) := fun b hb => hG.x19 hb
  generalize (fun b => (x 19 b 0).toNatClampNeg) = tcs at htc hx19
  have hhr := hR.hr
  have hyh := hR.y1
  obtain ⟨a1, ea1⟩ : ∃ a, a = xs (nI (5 * t) + 1).toNatClampNeg := ⟨_, rfl⟩
  obtain ⟨a2, ea2⟩ : ∃ a, a = xs (nI (5 * t) + 2).toNatClampNeg := ⟨_, rfl⟩
  obtain ⟨a3, ea3⟩ : ∃ a, a = xs (nI (5 * t) + 3).toNatClampNeg := ⟨_, rfl⟩
  obtain ⟨a4, ea4⟩ : ∃ a, a = xs (nI (5 * t) + 4).toNatClampNeg := ⟨_, rfl⟩
  have ht9 : t < 512 := by omega
  refine lv_aload_n hx hb dL_law_959 rfl (lv_at hl 1 rfl) ?_
  refine lv_aload_n hx hb dL_law_960 rfl (lv_at hl 0 rfl) ?_
  refine lv_iload hx hb dL_law_961 (lv_at hl 5 rfl) ?_
  refine lv_iconst (v := 1) hx hb dL_law_963 (by decide) ?_
  refine lv_iadd hx hb dL_law_964 ?_
  refine va_sld hx hb hX hbl hbA hS (i := (nI (5 * t)) + 1) (by rw [show nI (5 * t) + 1 = nI (5 * t + 1) from nI_add _ 1]; exact vp_in_nI (by omega) (by omega)) dL_law_965 ?_
  rw [← ea1]
  refine lv_aload_n hx hb dL_law_966 rfl (lv_at hl 0 rfl) ?_
  refine lv_iload hx hb dL_law_967 (lv_at hl 5 rfl) ?_
  refine lv_iconst (v := 2) hx hb dL_law_969 (by decide) ?_
  refine lv_iadd hx hb dL_law_970 ?_
  refine va_sld hx hb hX hbl hbA hS (i := (nI (5 * t)) + 2) (by rw [show nI (5 * t) + 2 = nI (5 * t + 2) from nI_add _ 2]; exact vp_in_nI (by omega) (by omega)) dL_law_971 ?_
  rw [← ea2]
  refine lv_aload_n hx hb dL_law_972 rfl (lv_at hl 3 rfl) ?_
  refine wx_calli (vx_runSW (As := [.ref (L 0), .int a1, .int a2, .ref (L 123)]) (rest := []) ⟨hx, hb, hml, hown, hts⟩ (kl_suspects l hst g s.heap.size 125 L (by omega) x (mw g L y ch ro) nb hnb hx0 nn hnn hx1 a1 a2 f ((mw_ge (by decide)).trans ho1)) (vx_cwSW 4 hts gL_law_L_suspects rfl rfl rfl (by decide +kernel) ⟨Nat.le_of_ble_eq_true rfl, Nat.le_of_ble_eq_true rfl⟩) (PW.preS3 (Nat.le_refl _) hJ hK hE hP hS) rfl rfl hl.1 rfl (lv_room (Nat.le_of_ble_eq_true rfl)) dL_law_973 ⟨(by show _ ≤ 603072; omega), (by show _ ≤ 7215210; omega)⟩) hS (fun r973 u973 H locs h973 hP hS => ?_)
  obtain ⟨ro2, e9, hc⟩ := c_suspects (nb := nb) (nn := nn) h973
  rw [e9, cw_mw] at hP
  refine lv_istore (lv' := [(6, .int r973), (0, .ref b), (1, .ref (L 0)), (2, .ref (L 106)), (3, .ref (L 123)), (4, .ref (L 124)), (5, .int (nI (5 * t)))]) hx hb dL_law_976 hl (by decide) rfl (fun ls hl => ?_)
  refine lv_aload_n hx hb dL_law_978 rfl (lv_at hl 3 rfl) ?_
  refine lv_aload_n hx hb dL_law_979 rfl (lv_at hl 1 rfl) ?_
  refine lv_iload hx hb dL_law_980 (lv_at hl 6 rfl) ?_
  refine lv_iconst (v := 1) hx hb dL_law_982 (by decide) ?_
  refine lv_iadd hx hb dL_law_983 ?_
  refine va_sld hx hb hX hbl hbA hS (i := (nI (5 * t)) + 1) (by rw [show nI (5 * t) + 1 = nI (5 * t + 1) from nI_add _ 1]; exact vp_in_nI (by omega) (by omega)) dL_law_984 ?_
  rw [← ea1]
  refine lv_aload_n hx hb dL_law_985 rfl (lv_at hl 1 rfl) ?_
  refine lv_iload hx hb dL_law_986 (lv_at hl 6 rfl) ?_
  refine lv_iconst (v := 2) hx hb dL_law_988 (by decide) ?_
  refine lv_iadd hx hb dL_law_989 ?_
  refine va_sld hx hb hX hbl hbA hS (i := (nI (5 * t)) + 2) (by rw [show nI (5 * t) + 2 = nI (5 * t + 2) from nI_add _ 2]; exact vp_in_nI (by omega) (by omega)) dL_law_990 ?_
  rw [← ea2]
  refine wx_calli (va_runV (As := [.int a1, .int a2]) (rest := []) ⟨hx, hb, hml, hown, hts⟩ (m_suspects l hst g s.heap.size 125 L (by omega) y ch (cw g L u973.1 ro2) nb nn hR.mi a1 a2) (cwV 2 hts gL_law_X4_suspects rfl rfl rfl (by decide +kernel) ⟨Nat.le_of_ble_eq_true rfl, Nat.le_of_ble_eq_true rfl⟩) (PW.preV3 (Nat.le_refl _) hJ hK hE hP hS (ci := 6) rfl (by omega) mw_o) rfl rfl hl.1 rfl (lv_room (Nat.le_of_ble_eq_true rfl)) dL_law_991 ⟨(by show _ ≤ 603072; omega), (by show _ ≤ 7215210; omega)⟩) hS (fun r991 u991 H locs h991 hP hS => ?_)
  obtain ⟨⟨nb2, nn2, hr2, hR2⟩, ho9⟩ := s_suspects (f := f) (r2 := r991) ht9 hR ho hc h991
  refine lv_istore (lv' := [(7, .int r991), (6, .int r973), (0, .ref b), (1, .ref (L 0)), (2, .ref (L 106)), (3, .ref (L 123)), (4, .ref (L 124)), (5, .int (nI (5 * t)))]) hx hb dL_law_994 hl (by decide) rfl (fun ls hl => ?_)
  refine lv_goto (tgt := 1271) hx hb dL_law_996 (by decide) ?_
  exact hnext _ _ _ _ _ _ _ _ _ _ _ _ hR2 ho9 (by omega) (by omega) (by rw [cw_mw]; exact hP) hS (lv_sub hl [2, 3, 4, 5, 6, 7] rfl)

set_option maxHeartbeats 8000000 in
set_option maxRecDepth 100000 in
theorem law_c20 {p : Program} {e : Env} {s : State} {m : MethodId} {below : List Frame} {meth : Method} {c : Code} (l : Launch) (hst : l.stackTraces = false) {b N : Nat} {xs : Nat → Int32} (hN : N ≤ 2560) (C0 : lw_At p s m meth c b N xs) (g : gE) (L : Nat → Nat) (hJ : wj 125 L (fun q : Nat => s.heap.size ≤ q)) (hK : va_K g.1 vwCl (tysC g) s) (hE : EE SS (fun q : Nat => s.heap.size ≤ q) s) {t : Nat} (ht : 5 * t + 5 ≤ N) {x y : St} {ch : Int64} {nb nn hr : Nat} {ro : Nat → va_E} (hR : R2 x y ch nb nn hr t) (ho : outOK g ro) {cl sl : Nat} (hcl : cl + 100 ≤ 603072) (hsl : sl + 1000 ≤ 7215210) {H : Heap} {locs : List Loc} (hP : va_P g.1 vwCl (wl 125 L (cw g L x (mw g L y ch ro))) H) (hS : va_S (fun q : Nat => s.heap.size ≤ q) s.heap H locs) {ls : Array Slot} (hl : lv_has ls 9 [(0, .ref b), (1, .ref (L 0)), (2, .ref (L 106)), (3, .ref (L 123)), (4, .ref (L 124)), (5, .int (nI (5 * t)))]) (hnext : ∀ (x2 y2 : St) (ch2 : Int64) (nb2 nn2 hr2 : Nat) (ro2 : Nat → va_E) (cl2 sl2 : Nat) (H : Heap) (locs : List Loc) (ls : Array Slot), R2 x2 y2 ch2 nb2 nn2 hr2 (t + 1) → outOK g ro2 → cl2 ≤ cl + 8 → sl2 ≤ sl + 48 → va_P g.1 vwCl (wl 125 L (cw g L x2 (mw g L y2 ch2 ro2))) H → va_S (fun q : Nat => s.heap.size ≤ q) s.heap H locs → lv_has ls 9 [(0, .ref b), (1, .ref (L 0)), (2, .ref (L 106)), (3, .ref (L 123)), (4, .ref (L 124)), (5, .int (nI (5 * t)))] → W p l e room_1 s m #[Value.ref b] below meth c H locs cl2 sl2 (lw_Z below #[Value.ref b] s) (F0 m 1271 ls [])) : W p l e room_1 s m #[Value.ref b] below meth c H locs cl sl (lw_Z below #[Value.ref b] s) (F0 m 999 ls []) := by
  obtain ⟨hx, hb, hr9, hml, hown, hts0, hX, hbl, hlocks, hgv⟩ := id C0
  have hown : s.vm.findClass RL = some m.cls := hown
  have hts : ∀ w ∈ wsL_law, w.before #[Value.ref b] s = true := fun w h => hts0 w (wsL_law_in w h)
  have hbA : ¬ (fun q : Nat => s.heap.size ≤ q) b := Nat.not_le.mpr hbl
  have hn : 125 ≤ 125 := Nat.le_refl _
  have hG := hR.gi
  have hnb := hG.nb6
  have hx0 := hG.x0
  have hnn := hG.nn40
  have hx1 := hG.x1
  have hsh := hG.sh
  have hrk := hG.rk
  have hbz := hR.b14
  obtain ⟨cnt, hcn, hx4⟩ := hR.cnt
  obtain ⟨⟨f, ho1⟩, ⟨fd, ho2⟩⟩ := id ho
  have htc : ∀ b, b < 6 → (fun b => (x 19 b 0).toNatClampNeg) b ≤ 1920 := fun b hb => hG.tc hb
  have hx19 : ∀ b, b < 6 → x 19 b 0 = nI ((fun b => (x 19 b 0).toNatClampNeg) b) := fun b hb => hG.x19 hb
  generalize (fun b => (x 19 b 0).toNatClampNeg) = tcs at htc hx19
  have hhr := hR.hr
  have hyh := hR.y1
  obtain ⟨a1, ea1⟩ : ∃ a, a = xs (nI (5 * t) + 1).toNatClampNeg := ⟨_, rfl⟩
  obtain ⟨a2, ea2⟩ : ∃ a, a = xs (nI (5 * t) + 2).toNatClampNeg := ⟨_, rfl⟩
  obtain ⟨a3, ea3⟩ : ∃ a, a = xs (nI (5 * t) + 3).toNatClampNeg := ⟨_, rfl⟩
  obtain ⟨a4, ea4⟩ : ∃ a, a = xs (nI (5 * t) + 4).toNatClampNeg := ⟨_, rfl⟩
  have ht9 : t < 512 := by omega
  refine lv_aload_n hx hb dL_law_999 rfl (lv_at hl 1 rfl) ?_
  refine lv_aload_n hx hb dL_law_1000 rfl (lv_at hl 0 rfl) ?_
  refine lv_iload hx hb dL_law_1001 (lv_at hl 5 rfl) ?_
  refine lv_iconst (v := 1) hx hb dL_law_1003 (by decide) ?_
  refine lv_iadd hx hb dL_law_1004 ?_
  refine va_sld hx hb hX hbl hbA hS (i := (nI (5 * t)) + 1) (by rw [show nI (5 * t) + 1 = nI (5 * t + 1) from nI_add _ 1]; exact vp_in_nI (by omega) (by omega)) dL_law_1005 ?_
  rw [← ea1]
  refine lv_aload_n hx hb dL_law_1006 rfl (lv_at hl 0 rfl) ?_
  refine lv_iload hx hb dL_law_1007 (lv_at hl 5 rfl) ?_
  refine lv_iconst (v := 2) hx hb dL_law_1009 (by decide) ?_
  refine lv_iadd hx hb dL_law_1010 ?_
  refine va_sld hx hb hX hbl hbA hS (i := (nI (5 * t)) + 2) (by rw [show nI (5 * t) + 2 = nI (5 * t + 2) from nI_add _ 2]; exact vp_in_nI (by omega) (by omega)) dL_law_1011 ?_
  rw [← ea2]
  refine lv_aload_n hx hb dL_law_1012 rfl (lv_at hl 0 rfl) ?_
  refine lv_iload hx hb dL_law_1013 (lv_at hl 5 rfl) ?_
  refine lv_iconst (v := 3) hx hb dL_law_1015 (by decide) ?_
  refine lv_iadd hx hb dL_law_1016 ?_
  refine va_sld hx hb hX hbl hbA hS (i := (nI (5 * t)) + 3) (by rw [show nI (5 * t) + 3 = nI (5 * t + 3) from nI_add _ 3]; exact vp_in_nI (by omega) (by omega)) dL_law_1017 ?_
  rw [← ea3]
  refine lv_aload_n hx hb dL_law_1018 rfl (lv_at hl 3 rfl) ?_
  refine wx_calli (vx_runSW (As := [.ref (L 0), .int a1, .int a2, .int a3, .ref (L 123)]) (rest := []) ⟨hx, hb, hml, hown, hts⟩ (kl_suspectAt l hst g s.heap.size 125 L (by omega) x (mw g L y ch ro) nb hnb hx0 nn hnn hx1 a1 a2 a3 f ((mw_ge (by decide)).trans ho1)) (vx_cwSW 5 hts gL_law_L_suspectAt rfl rfl rfl (by decide +kernel) ⟨Nat.le_of_ble_eq_true rfl, Nat.le_of_ble_eq_true rfl⟩) (PW.preS3 (Nat.le_refl _) hJ hK hE hP hS) rfl rfl hl.1 rfl (lv_room (Nat.le_of_ble_eq_true rfl)) dL_law_1019 ⟨(by show _ ≤ 603072; omega), (by show _ ≤ 7215210; omega)⟩) hS (fun r1019 u1019 H locs h1019 hP hS => ?_)
  obtain ⟨ro2, e9, hc⟩ := c_suspectAt (nb := nb) (nn := nn) h1019
  rw [e9, cw_mw] at hP
  refine lv_istore (lv' := [(6, .int r1019), (0, .ref b), (1, .ref (L 0)), (2, .ref (L 106)), (3, .ref (L 123)), (4, .ref (L 124)), (5, .int (nI (5 * t)))]) hx hb dL_law_1022 hl (by decide) rfl (fun ls hl => ?_)
  refine lv_aload_n hx hb dL_law_1024 rfl (lv_at hl 3 rfl) ?_
  refine lv_aload_n hx hb dL_law_1025 rfl (lv_at hl 1 rfl) ?_
  refine lv_iload hx hb dL_law_1026 (lv_at hl 6 rfl) ?_
  refine lv_iconst (v := 1) hx hb dL_law_1028 (by decide) ?_
  refine lv_iadd hx hb dL_law_1029 ?_
  refine va_sld hx hb hX hbl hbA hS (i := (nI (5 * t)) + 1) (by rw [show nI (5 * t) + 1 = nI (5 * t + 1) from nI_add _ 1]; exact vp_in_nI (by omega) (by omega)) dL_law_1030 ?_
  rw [← ea1]
  refine lv_aload_n hx hb dL_law_1031 rfl (lv_at hl 1 rfl) ?_
  refine lv_iload hx hb dL_law_1032 (lv_at hl 6 rfl) ?_
  refine lv_iconst (v := 2) hx hb dL_law_1034 (by decide) ?_
  refine lv_iadd hx hb dL_law_1035 ?_
  refine va_sld hx hb hX hbl hbA hS (i := (nI (5 * t)) + 2) (by rw [show nI (5 * t) + 2 = nI (5 * t + 2) from nI_add _ 2]; exact vp_in_nI (by omega) (by omega)) dL_law_1036 ?_
  rw [← ea2]
  refine lv_aload_n hx hb dL_law_1037 rfl (lv_at hl 1 rfl) ?_
  refine lv_iload hx hb dL_law_1038 (lv_at hl 6 rfl) ?_
  refine lv_iconst (v := 3) hx hb dL_law_1040 (by decide) ?_
  refine lv_iadd hx hb dL_law_1041 ?_
  refine va_sld hx hb hX hbl hbA hS (i := (nI (5 * t)) + 3) (by rw [show nI (5 * t) + 3 = nI (5 * t + 3) from nI_add _ 3]; exact vp_in_nI (by omega) (by omega)) dL_law_1042 ?_
  rw [← ea3]
  refine wx_calli (va_runV (As := [.int a1, .int a2, .int a3]) (rest := []) ⟨hx, hb, hml, hown, hts⟩ (m_suspectAt l hst g s.heap.size 125 L (by omega) y ch (cw g L u1019.1 ro2) nb nn hR.mi a1 a2 a3) (cwV 3 hts gL_law_X4_suspectAt rfl rfl rfl (by decide +kernel) ⟨Nat.le_of_ble_eq_true rfl, Nat.le_of_ble_eq_true rfl⟩) (PW.preV3 (Nat.le_refl _) hJ hK hE hP hS (ci := 6) rfl (by omega) mw_o) rfl rfl hl.1 rfl (lv_room (Nat.le_of_ble_eq_true rfl)) dL_law_1043 ⟨(by show _ ≤ 603072; omega), (by show _ ≤ 7215210; omega)⟩) hS (fun r1043 u1043 H locs h1043 hP hS => ?_)
  obtain ⟨⟨nb2, nn2, hr2, hR2⟩, ho9⟩ := s_suspectAt (f := f) (r2 := r1043) ht9 hR ho hc h1043
  refine lv_istore (lv' := [(7, .int r1043), (6, .int r1019), (0, .ref b), (1, .ref (L 0)), (2, .ref (L 106)), (3, .ref (L 123)), (4, .ref (L 124)), (5, .int (nI (5 * t)))]) hx hb dL_law_1046 hl (by decide) rfl (fun ls hl => ?_)
  refine lv_goto (tgt := 1271) hx hb dL_law_1048 (by decide) ?_
  exact hnext _ _ _ _ _ _ _ _ _ _ _ _ hR2 ho9 (by omega) (by omega) (by rw [cw_mw]; exact hP) hS (lv_sub hl [2, 3, 4, 5, 6, 7] rfl)

set_option maxHeartbeats 8000000 in
set_option maxRecDepth 100000 in
theorem law_c21 {p : Program} {e : Env} {s : State} {m : MethodId} {below : List Frame} {meth : Method} {c : Code} (l : Launch) (hst : l.stackTraces = false) {b N : Nat} {xs : Nat → Int32} (hN : N ≤ 2560) (C0 : lw_At p s m meth c b N xs) (g : gE) (L : Nat → Nat) (hJ : wj 125 L (fun q : Nat => s.heap.size ≤ q)) (hK : va_K g.1 vwCl (tysC g) s) (hE : EE SS (fun q : Nat => s.heap.size ≤ q) s) {t : Nat} (ht : 5 * t + 5 ≤ N) {x y : St} {ch : Int64} {nb nn hr : Nat} {ro : Nat → va_E} (hR : R2 x y ch nb nn hr t) (ho : outOK g ro) {cl sl : Nat} (hcl : cl + 100 ≤ 603072) (hsl : sl + 1000 ≤ 7215210) {H : Heap} {locs : List Loc} (hP : va_P g.1 vwCl (wl 125 L (cw g L x (mw g L y ch ro))) H) (hS : va_S (fun q : Nat => s.heap.size ≤ q) s.heap H locs) {ls : Array Slot} (hl : lv_has ls 9 [(0, .ref b), (1, .ref (L 0)), (2, .ref (L 106)), (3, .ref (L 123)), (4, .ref (L 124)), (5, .int (nI (5 * t)))]) (hnext : ∀ (x2 y2 : St) (ch2 : Int64) (nb2 nn2 hr2 : Nat) (ro2 : Nat → va_E) (cl2 sl2 : Nat) (H : Heap) (locs : List Loc) (ls : Array Slot), R2 x2 y2 ch2 nb2 nn2 hr2 (t + 1) → outOK g ro2 → cl2 ≤ cl + 8 → sl2 ≤ sl + 48 → va_P g.1 vwCl (wl 125 L (cw g L x2 (mw g L y2 ch2 ro2))) H → va_S (fun q : Nat => s.heap.size ≤ q) s.heap H locs → lv_has ls 9 [(0, .ref b), (1, .ref (L 0)), (2, .ref (L 106)), (3, .ref (L 123)), (4, .ref (L 124)), (5, .int (nI (5 * t)))] → W p l e room_1 s m #[Value.ref b] below meth c H locs cl2 sl2 (lw_Z below #[Value.ref b] s) (F0 m 1271 ls [])) : W p l e room_1 s m #[Value.ref b] below meth c H locs cl sl (lw_Z below #[Value.ref b] s) (F0 m 1051 ls []) := by
  obtain ⟨hx, hb, hr9, hml, hown, hts0, hX, hbl, hlocks, hgv⟩ := id C0
  have hown : s.vm.findClass RL = some m.cls := hown
  have hts : ∀ w ∈ wsL_law, w.before #[Value.ref b] s = true := fun w h => hts0 w (wsL_law_in w h)
  have hbA : ¬ (fun q : Nat => s.heap.size ≤ q) b := Nat.not_le.mpr hbl
  have hn : 125 ≤ 125 := Nat.le_refl _
  have hG := hR.gi
  have hnb := hG.nb6
  have hx0 := hG.x0
  have hnn := hG.nn40
  have hx1 := hG.x1
  have hsh := hG.sh
  have hrk := hG.rk
  have hbz := hR.b14
  obtain ⟨cnt, hcn, hx4⟩ := hR.cnt
  obtain ⟨⟨f, ho1⟩, ⟨fd, ho2⟩⟩ := id ho
  have htc : ∀ b, b < 6 → (fun b => (x 19 b 0).toNatClampNeg) b ≤ 1920 := fun b hb => hG.tc hb
  have hx19 : ∀ b, b < 6 → x 19 b 0 = nI ((fun b => (x 19 b 0).toNatClampNeg) b) := fun b hb => hG.x19 hb
  generalize (fun b => (x 19 b 0).toNatClampNeg) = tcs at htc hx19
  have hhr := hR.hr
  have hyh := hR.y1
  obtain ⟨a1, ea1⟩ : ∃ a, a = xs (nI (5 * t) + 1).toNatClampNeg := ⟨_, rfl⟩
  obtain ⟨a2, ea2⟩ : ∃ a, a = xs (nI (5 * t) + 2).toNatClampNeg := ⟨_, rfl⟩
  obtain ⟨a3, ea3⟩ : ∃ a, a = xs (nI (5 * t) + 3).toNatClampNeg := ⟨_, rfl⟩
  obtain ⟨a4, ea4⟩ : ∃ a, a = xs (nI (5 * t) + 4).toNatClampNeg := ⟨_, rfl⟩
  have ht9 : t < 512 := by omega
  refine lv_aload_n hx hb dL_law_1051 rfl (lv_at hl 1 rfl) ?_
  refine lv_aload_n hx hb dL_law_1052 rfl (lv_at hl 0 rfl) ?_
  refine lv_iload hx hb dL_law_1053 (lv_at hl 5 rfl) ?_
  refine lv_iconst (v := 1) hx hb dL_law_1055 (by decide) ?_
  refine lv_iadd hx hb dL_law_1056 ?_
  refine va_sld hx hb hX hbl hbA hS (i := (nI (5 * t)) + 1) (by rw [show nI (5 * t) + 1 = nI (5 * t + 1) from nI_add _ 1]; exact vp_in_nI (by omega) (by omega)) dL_law_1057 ?_
  rw [← ea1]
  refine lv_aload_n hx hb dL_law_1058 rfl (lv_at hl 3 rfl) ?_
  refine wx_calli (vx_runSW (As := [.ref (L 0), .int a1, .ref (L 123)]) (rest := []) ⟨hx, hb, hml, hown, hts⟩ (kl_go l hst g s.heap.size 125 L (by omega) x (mw g L y ch ro) nb nn hG a1 f ((mw_ge (by decide)).trans ho1)) (vx_cwSW 3 hts gL_law_L_go rfl rfl rfl (by decide +kernel) ⟨Nat.le_of_ble_eq_true rfl, Nat.le_of_ble_eq_true rfl⟩) (PW.preS3 (Nat.le_refl _) hJ hK hE hP hS) rfl rfl hl.1 rfl (lv_room (Nat.le_of_ble_eq_true rfl)) dL_law_1059 ⟨(by show _ ≤ 603072; omega), (by show _ ≤ 7215210; omega)⟩) hS (fun r1059 u1059 H locs h1059 hP hS => ?_)
  obtain ⟨ro2, e9, hc⟩ := c_go (nb := nb) (nn := nn) h1059
  rw [e9, cw_mw] at hP
  refine lv_istore (lv' := [(6, .int r1059), (0, .ref b), (1, .ref (L 0)), (2, .ref (L 106)), (3, .ref (L 123)), (4, .ref (L 124)), (5, .int (nI (5 * t)))]) hx hb dL_law_1062 hl (by decide) rfl (fun ls hl => ?_)
  refine lv_aload_n hx hb dL_law_1064 rfl (lv_at hl 3 rfl) ?_
  refine lv_aload_n hx hb dL_law_1065 rfl (lv_at hl 1 rfl) ?_
  refine lv_iload hx hb dL_law_1066 (lv_at hl 6 rfl) ?_
  refine lv_iconst (v := 1) hx hb dL_law_1068 (by decide) ?_
  refine lv_iadd hx hb dL_law_1069 ?_
  refine va_sld hx hb hX hbl hbA hS (i := (nI (5 * t)) + 1) (by rw [show nI (5 * t) + 1 = nI (5 * t + 1) from nI_add _ 1]; exact vp_in_nI (by omega) (by omega)) dL_law_1070 ?_
  rw [← ea1]
  refine wx_calli (va_runV (As := [.int a1]) (rest := []) ⟨hx, hb, hml, hown, hts⟩ (m_go l hst g s.heap.size 125 L (by omega) y ch (cw g L u1059.1 ro2) nb nn hR.mi a1) (cwV 1 hts gL_law_X4_go rfl rfl rfl (by decide +kernel) ⟨Nat.le_of_ble_eq_true rfl, Nat.le_of_ble_eq_true rfl⟩) (PW.preV3 (Nat.le_refl _) hJ hK hE hP hS (ci := 6) rfl (by omega) mw_o) rfl rfl hl.1 rfl (lv_room (Nat.le_of_ble_eq_true rfl)) dL_law_1071 ⟨(by show _ ≤ 603072; omega), (by show _ ≤ 7215210; omega)⟩) hS (fun r1071 u1071 H locs h1071 hP hS => ?_)
  obtain ⟨⟨nb2, nn2, hr2, hR2⟩, ho9⟩ := s_go (f := f) (r2 := r1071) ht9 hR ho hc h1071
  refine lv_istore (lv' := [(7, .int r1071), (6, .int r1059), (0, .ref b), (1, .ref (L 0)), (2, .ref (L 106)), (3, .ref (L 123)), (4, .ref (L 124)), (5, .int (nI (5 * t)))]) hx hb dL_law_1074 hl (by decide) rfl (fun ls hl => ?_)
  refine lv_goto (tgt := 1271) hx hb dL_law_1076 (by decide) ?_
  exact hnext _ _ _ _ _ _ _ _ _ _ _ _ hR2 ho9 (by omega) (by omega) (by rw [cw_mw]; exact hP) hS (lv_sub hl [2, 3, 4, 5, 6, 7] rfl)

set_option maxHeartbeats 8000000 in
set_option maxRecDepth 100000 in
theorem law_c22 {p : Program} {e : Env} {s : State} {m : MethodId} {below : List Frame} {meth : Method} {c : Code} (l : Launch) (hst : l.stackTraces = false) {b N : Nat} {xs : Nat → Int32} (hN : N ≤ 2560) (C0 : lw_At p s m meth c b N xs) (g : gE) (L : Nat → Nat) (hJ : wj 125 L (fun q : Nat => s.heap.size ≤ q)) (hK : va_K g.1 vwCl (tysC g) s) (hE : EE SS (fun q : Nat => s.heap.size ≤ q) s) {t : Nat} (ht : 5 * t + 5 ≤ N) {x y : St} {ch : Int64} {nb nn hr : Nat} {ro : Nat → va_E} (hR : R2 x y ch nb nn hr t) (ho : outOK g ro) {cl sl : Nat} (hcl : cl + 100 ≤ 603072) (hsl : sl + 1000 ≤ 7215210) {H : Heap} {locs : List Loc} (hP : va_P g.1 vwCl (wl 125 L (cw g L x (mw g L y ch ro))) H) (hS : va_S (fun q : Nat => s.heap.size ≤ q) s.heap H locs) {ls : Array Slot} (hl : lv_has ls 9 [(0, .ref b), (1, .ref (L 0)), (2, .ref (L 106)), (3, .ref (L 123)), (4, .ref (L 124)), (5, .int (nI (5 * t)))]) (hnext : ∀ (x2 y2 : St) (ch2 : Int64) (nb2 nn2 hr2 : Nat) (ro2 : Nat → va_E) (cl2 sl2 : Nat) (H : Heap) (locs : List Loc) (ls : Array Slot), R2 x2 y2 ch2 nb2 nn2 hr2 (t + 1) → outOK g ro2 → cl2 ≤ cl + 8 → sl2 ≤ sl + 48 → va_P g.1 vwCl (wl 125 L (cw g L x2 (mw g L y2 ch2 ro2))) H → va_S (fun q : Nat => s.heap.size ≤ q) s.heap H locs → lv_has ls 9 [(0, .ref b), (1, .ref (L 0)), (2, .ref (L 106)), (3, .ref (L 123)), (4, .ref (L 124)), (5, .int (nI (5 * t)))] → W p l e room_1 s m #[Value.ref b] below meth c H locs cl2 sl2 (lw_Z below #[Value.ref b] s) (F0 m 1271 ls [])) : W p l e room_1 s m #[Value.ref b] below meth c H locs cl sl (lw_Z below #[Value.ref b] s) (F0 m 1079 ls []) := by
  obtain ⟨hx, hb, hr9, hml, hown, hts0, hX, hbl, hlocks, hgv⟩ := id C0
  have hown : s.vm.findClass RL = some m.cls := hown
  have hts : ∀ w ∈ wsL_law, w.before #[Value.ref b] s = true := fun w h => hts0 w (wsL_law_in w h)
  have hbA : ¬ (fun q : Nat => s.heap.size ≤ q) b := Nat.not_le.mpr hbl
  have hn : 125 ≤ 125 := Nat.le_refl _
  have hG := hR.gi
  have hnb := hG.nb6
  have hx0 := hG.x0
  have hnn := hG.nn40
  have hx1 := hG.x1
  have hsh := hG.sh
  have hrk := hG.rk
  have hbz := hR.b14
  obtain ⟨cnt, hcn, hx4⟩ := hR.cnt
  obtain ⟨⟨f, ho1⟩, ⟨fd, ho2⟩⟩ := id ho
  have htc : ∀ b, b < 6 → (fun b => (x 19 b 0).toNatClampNeg) b ≤ 1920 := fun b hb => hG.tc hb
  have hx19 : ∀ b, b < 6 → x 19 b 0 = nI ((fun b => (x 19 b 0).toNatClampNeg) b) := fun b hb => hG.x19 hb
  generalize (fun b => (x 19 b 0).toNatClampNeg) = tcs at htc hx19
  have hhr := hR.hr
  have hyh := hR.y1
  obtain ⟨a1, ea1⟩ : ∃ a, a = xs (nI (5 * t) + 1).toNatClampNeg := ⟨_, rfl⟩
  obtain ⟨a2, ea2⟩ : ∃ a, a = xs (nI (5 * t) + 2).toNatClampNeg := ⟨_, rfl⟩
  obtain ⟨a3, ea3⟩ : ∃ a, a = xs (nI (5 * t) + 3).toNatClampNeg := ⟨_, rfl⟩
  obtain ⟨a4, ea4⟩ : ∃ a, a = xs (nI (5 * t) + 4).toNatClampNeg := ⟨_, rfl⟩
  have ht9 : t < 512 := by omega
  refine lv_aload_n hx hb dL_law_1079 rfl (lv_at hl 1 rfl) ?_
  refine wx_calli (va_runV (As := []) (rest := []) ⟨hx, hb, hml, hown, hts⟩ (k_hour l hst g s.heap.size 125 L (by omega) x (mw g L y ch ro) ) (cwV 0 hts gL_law_X3_hour rfl rfl rfl (by decide +kernel) ⟨Nat.le_of_ble_eq_true rfl, Nat.le_of_ble_eq_true rfl⟩) (PW.preV3 (Nat.le_refl _) hJ hK hE hP hS (ci := 5) rfl (by omega) cw_d) rfl rfl hl.1 rfl (lv_room (Nat.le_of_ble_eq_true rfl)) dL_law_1080 ⟨(by show _ ≤ 603072; omega), (by show _ ≤ 7215210; omega)⟩) hS (fun r1080 u1080 H locs h1080 hP hS => ?_)
  rw [cw_mw] at hP
  refine lv_pop hx hb dL_law_1083 rfl ?_
  refine lv_aload_n hx hb dL_law_1084 rfl (lv_at hl 2 rfl) ?_
  refine wx_calli (va_runV (As := []) (rest := []) ⟨hx, hb, hml, hown, hts⟩ (m_hour l hst g s.heap.size 125 L (by omega) y ch (cw g L x ro) nb nn hR.mi ) (cwV 0 hts gL_law_X4_hour rfl rfl rfl (by decide +kernel) ⟨Nat.le_of_ble_eq_true rfl, Nat.le_of_ble_eq_true rfl⟩) (PW.preV3 (Nat.le_refl _) hJ hK hE hP hS (ci := 6) rfl (by omega) mw_o) rfl rfl hl.1 rfl (lv_room (Nat.le_of_ble_eq_true rfl)) dL_law_1085 ⟨(by show _ ≤ 603072; omega), (by show _ ≤ 7215210; omega)⟩) hS (fun r1085 u1085 H locs h1085 hP hS => ?_)
  have hR2 : R2 x u1085.1 u1085.2 nb nn hr (t + 1) := by rw [h1085.1]; exact (hR.up ht9).tz
  have ho9 : outOK g ro := ho
  refine lv_pop hx hb dL_law_1088 rfl ?_
  refine lv_goto (tgt := 1271) hx hb dL_law_1089 (by decide) ?_
  exact hnext _ _ _ _ _ _ _ _ _ _ _ _ hR2 ho9 (by omega) (by omega) (by rw [cw_mw]; exact hP) hS (lv_sub hl [0, 1, 2, 3, 4, 5] rfl)

set_option maxHeartbeats 8000000 in
set_option maxRecDepth 100000 in
theorem law_c23 {p : Program} {e : Env} {s : State} {m : MethodId} {below : List Frame} {meth : Method} {c : Code} (l : Launch) (hst : l.stackTraces = false) {b N : Nat} {xs : Nat → Int32} (hN : N ≤ 2560) (C0 : lw_At p s m meth c b N xs) (g : gE) (L : Nat → Nat) (hJ : wj 125 L (fun q : Nat => s.heap.size ≤ q)) (hK : va_K g.1 vwCl (tysC g) s) (hE : EE SS (fun q : Nat => s.heap.size ≤ q) s) {t : Nat} (ht : 5 * t + 5 ≤ N) {x y : St} {ch : Int64} {nb nn hr : Nat} {ro : Nat → va_E} (hR : R2 x y ch nb nn hr t) (ho : outOK g ro) {cl sl : Nat} (hcl : cl + 100 ≤ 603072) (hsl : sl + 1000 ≤ 7215210) {H : Heap} {locs : List Loc} (hP : va_P g.1 vwCl (wl 125 L (cw g L x (mw g L y ch ro))) H) (hS : va_S (fun q : Nat => s.heap.size ≤ q) s.heap H locs) {ls : Array Slot} (hl : lv_has ls 9 [(0, .ref b), (1, .ref (L 0)), (2, .ref (L 106)), (3, .ref (L 123)), (4, .ref (L 124)), (5, .int (nI (5 * t)))]) (hnext : ∀ (x2 y2 : St) (ch2 : Int64) (nb2 nn2 hr2 : Nat) (ro2 : Nat → va_E) (cl2 sl2 : Nat) (H : Heap) (locs : List Loc) (ls : Array Slot), R2 x2 y2 ch2 nb2 nn2 hr2 (t + 1) → outOK g ro2 → cl2 ≤ cl + 8 → sl2 ≤ sl + 48 → va_P g.1 vwCl (wl 125 L (cw g L x2 (mw g L y2 ch2 ro2))) H → va_S (fun q : Nat => s.heap.size ≤ q) s.heap H locs → lv_has ls 9 [(0, .ref b), (1, .ref (L 0)), (2, .ref (L 106)), (3, .ref (L 123)), (4, .ref (L 124)), (5, .int (nI (5 * t)))] → W p l e room_1 s m #[Value.ref b] below meth c H locs cl2 sl2 (lw_Z below #[Value.ref b] s) (F0 m 1271 ls [])) : W p l e room_1 s m #[Value.ref b] below meth c H locs cl sl (lw_Z below #[Value.ref b] s) (F0 m 1092 ls []) := by
  obtain ⟨hx, hb, hr9, hml, hown, hts0, hX, hbl, hlocks, hgv⟩ := id C0
  have hown : s.vm.findClass RL = some m.cls := hown
  have hts : ∀ w ∈ wsL_law, w.before #[Value.ref b] s = true := fun w h => hts0 w (wsL_law_in w h)
  have hbA : ¬ (fun q : Nat => s.heap.size ≤ q) b := Nat.not_le.mpr hbl
  have hn : 125 ≤ 125 := Nat.le_refl _
  have hG := hR.gi
  have hnb := hG.nb6
  have hx0 := hG.x0
  have hnn := hG.nn40
  have hx1 := hG.x1
  have hsh := hG.sh
  have hrk := hG.rk
  have hbz := hR.b14
  obtain ⟨cnt, hcn, hx4⟩ := hR.cnt
  obtain ⟨⟨f, ho1⟩, ⟨fd, ho2⟩⟩ := id ho
  have htc : ∀ b, b < 6 → (fun b => (x 19 b 0).toNatClampNeg) b ≤ 1920 := fun b hb => hG.tc hb
  have hx19 : ∀ b, b < 6 → x 19 b 0 = nI ((fun b => (x 19 b 0).toNatClampNeg) b) := fun b hb => hG.x19 hb
  generalize (fun b => (x 19 b 0).toNatClampNeg) = tcs at htc hx19
  have hhr := hR.hr
  have hyh := hR.y1
  obtain ⟨a1, ea1⟩ : ∃ a, a = xs (nI (5 * t) + 1).toNatClampNeg := ⟨_, rfl⟩
  obtain ⟨a2, ea2⟩ : ∃ a, a = xs (nI (5 * t) + 2).toNatClampNeg := ⟨_, rfl⟩
  obtain ⟨a3, ea3⟩ : ∃ a, a = xs (nI (5 * t) + 3).toNatClampNeg := ⟨_, rfl⟩
  obtain ⟨a4, ea4⟩ : ∃ a, a = xs (nI (5 * t) + 4).toNatClampNeg := ⟨_, rfl⟩
  have ht9 : t < 512 := by omega
  refine lv_aload_n hx hb dL_law_1092 rfl (lv_at hl 1 rfl) ?_
  refine wx_calli (va_runV (As := []) (rest := []) ⟨hx, hb, hml, hown, hts⟩ (k_boards l hst g s.heap.size 125 L (by omega) x (mw g L y ch ro) ) (cwV 0 hts gL_law_X3_boards rfl rfl rfl (by decide +kernel) ⟨Nat.le_of_ble_eq_true rfl, Nat.le_of_ble_eq_true rfl⟩) (PW.preV3 (Nat.le_refl _) hJ hK hE hP hS (ci := 5) rfl (by omega) cw_d) rfl rfl hl.1 rfl (lv_room (Nat.le_of_ble_eq_true rfl)) dL_law_1093 ⟨(by show _ ≤ 603072; omega), (by show _ ≤ 7215210; omega)⟩) hS (fun r1093 u1093 H locs h1093 hP hS => ?_)
  rw [cw_mw] at hP
  refine lv_pop hx hb dL_law_1096 rfl ?_
  refine lv_aload_n hx hb dL_law_1097 rfl (lv_at hl 2 rfl) ?_
  refine wx_calli (va_runV (As := []) (rest := []) ⟨hx, hb, hml, hown, hts⟩ (m_boards l hst g s.heap.size 125 L (by omega) y ch (cw g L x ro) nb nn hR.mi ) (cwV 0 hts gL_law_X4_boards rfl rfl rfl (by decide +kernel) ⟨Nat.le_of_ble_eq_true rfl, Nat.le_of_ble_eq_true rfl⟩) (PW.preV3 (Nat.le_refl _) hJ hK hE hP hS (ci := 6) rfl (by omega) mw_o) rfl rfl hl.1 rfl (lv_room (Nat.le_of_ble_eq_true rfl)) dL_law_1098 ⟨(by show _ ≤ 603072; omega), (by show _ ≤ 7215210; omega)⟩) hS (fun r1098 u1098 H locs h1098 hP hS => ?_)
  have hR2 : R2 x u1098.1 u1098.2 nb nn hr (t + 1) := by rw [h1098.1]; exact (hR.up ht9).tz
  have ho9 : outOK g ro := ho
  refine lv_pop hx hb dL_law_1101 rfl ?_
  refine lv_goto (tgt := 1271) hx hb dL_law_1102 (by decide) ?_
  exact hnext _ _ _ _ _ _ _ _ _ _ _ _ hR2 ho9 (by omega) (by omega) (by rw [cw_mw]; exact hP) hS (lv_sub hl [0, 1, 2, 3, 4, 5] rfl)

set_option maxHeartbeats 8000000 in
set_option maxRecDepth 100000 in
theorem law_c24 {p : Program} {e : Env} {s : State} {m : MethodId} {below : List Frame} {meth : Method} {c : Code} (l : Launch) (hst : l.stackTraces = false) {b N : Nat} {xs : Nat → Int32} (hN : N ≤ 2560) (C0 : lw_At p s m meth c b N xs) (g : gE) (L : Nat → Nat) (hJ : wj 125 L (fun q : Nat => s.heap.size ≤ q)) (hK : va_K g.1 vwCl (tysC g) s) (hE : EE SS (fun q : Nat => s.heap.size ≤ q) s) {t : Nat} (ht : 5 * t + 5 ≤ N) {x y : St} {ch : Int64} {nb nn hr : Nat} {ro : Nat → va_E} (hR : R2 x y ch nb nn hr t) (ho : outOK g ro) {cl sl : Nat} (hcl : cl + 100 ≤ 603072) (hsl : sl + 1000 ≤ 7215210) {H : Heap} {locs : List Loc} (hP : va_P g.1 vwCl (wl 125 L (cw g L x (mw g L y ch ro))) H) (hS : va_S (fun q : Nat => s.heap.size ≤ q) s.heap H locs) {ls : Array Slot} (hl : lv_has ls 9 [(0, .ref b), (1, .ref (L 0)), (2, .ref (L 106)), (3, .ref (L 123)), (4, .ref (L 124)), (5, .int (nI (5 * t)))]) (hnext : ∀ (x2 y2 : St) (ch2 : Int64) (nb2 nn2 hr2 : Nat) (ro2 : Nat → va_E) (cl2 sl2 : Nat) (H : Heap) (locs : List Loc) (ls : Array Slot), R2 x2 y2 ch2 nb2 nn2 hr2 (t + 1) → outOK g ro2 → cl2 ≤ cl + 8 → sl2 ≤ sl + 48 → va_P g.1 vwCl (wl 125 L (cw g L x2 (mw g L y2 ch2 ro2))) H → va_S (fun q : Nat => s.heap.size ≤ q) s.heap H locs → lv_has ls 9 [(0, .ref b), (1, .ref (L 0)), (2, .ref (L 106)), (3, .ref (L 123)), (4, .ref (L 124)), (5, .int (nI (5 * t)))] → W p l e room_1 s m #[Value.ref b] below meth c H locs cl2 sl2 (lw_Z below #[Value.ref b] s) (F0 m 1271 ls [])) : W p l e room_1 s m #[Value.ref b] below meth c H locs cl sl (lw_Z below #[Value.ref b] s) (F0 m 1105 ls []) := by
  obtain ⟨hx, hb, hr9, hml, hown, hts0, hX, hbl, hlocks, hgv⟩ := id C0
  have hown : s.vm.findClass RL = some m.cls := hown
  have hts : ∀ w ∈ wsL_law, w.before #[Value.ref b] s = true := fun w h => hts0 w (wsL_law_in w h)
  have hbA : ¬ (fun q : Nat => s.heap.size ≤ q) b := Nat.not_le.mpr hbl
  have hn : 125 ≤ 125 := Nat.le_refl _
  have hG := hR.gi
  have hnb := hG.nb6
  have hx0 := hG.x0
  have hnn := hG.nn40
  have hx1 := hG.x1
  have hsh := hG.sh
  have hrk := hG.rk
  have hbz := hR.b14
  obtain ⟨cnt, hcn, hx4⟩ := hR.cnt
  obtain ⟨⟨f, ho1⟩, ⟨fd, ho2⟩⟩ := id ho
  have htc : ∀ b, b < 6 → (fun b => (x 19 b 0).toNatClampNeg) b ≤ 1920 := fun b hb => hG.tc hb
  have hx19 : ∀ b, b < 6 → x 19 b 0 = nI ((fun b => (x 19 b 0).toNatClampNeg) b) := fun b hb => hG.x19 hb
  generalize (fun b => (x 19 b 0).toNatClampNeg) = tcs at htc hx19
  have hhr := hR.hr
  have hyh := hR.y1
  obtain ⟨a1, ea1⟩ : ∃ a, a = xs (nI (5 * t) + 1).toNatClampNeg := ⟨_, rfl⟩
  obtain ⟨a2, ea2⟩ : ∃ a, a = xs (nI (5 * t) + 2).toNatClampNeg := ⟨_, rfl⟩
  obtain ⟨a3, ea3⟩ : ∃ a, a = xs (nI (5 * t) + 3).toNatClampNeg := ⟨_, rfl⟩
  obtain ⟨a4, ea4⟩ : ∃ a, a = xs (nI (5 * t) + 4).toNatClampNeg := ⟨_, rfl⟩
  have ht9 : t < 512 := by omega
  refine lv_aload_n hx hb dL_law_1105 rfl (lv_at hl 1 rfl) ?_
  refine wx_calli (va_runV (As := []) (rest := []) ⟨hx, hb, hml, hown, hts⟩ (k_notices l hst g s.heap.size 125 L (by omega) x (mw g L y ch ro) ) (cwV 0 hts gL_law_X3_notices rfl rfl rfl (by decide +kernel) ⟨Nat.le_of_ble_eq_true rfl, Nat.le_of_ble_eq_true rfl⟩) (PW.preV3 (Nat.le_refl _) hJ hK hE hP hS (ci := 5) rfl (by omega) cw_d) rfl rfl hl.1 rfl (lv_room (Nat.le_of_ble_eq_true rfl)) dL_law_1106 ⟨(by show _ ≤ 603072; omega), (by show _ ≤ 7215210; omega)⟩) hS (fun r1106 u1106 H locs h1106 hP hS => ?_)
  rw [cw_mw] at hP
  refine lv_pop hx hb dL_law_1109 rfl ?_
  refine lv_aload_n hx hb dL_law_1110 rfl (lv_at hl 2 rfl) ?_
  refine wx_calli (va_runV (As := []) (rest := []) ⟨hx, hb, hml, hown, hts⟩ (m_notices l hst g s.heap.size 125 L (by omega) y ch (cw g L x ro) nb nn hR.mi ) (cwV 0 hts gL_law_X4_notices rfl rfl rfl (by decide +kernel) ⟨Nat.le_of_ble_eq_true rfl, Nat.le_of_ble_eq_true rfl⟩) (PW.preV3 (Nat.le_refl _) hJ hK hE hP hS (ci := 6) rfl (by omega) mw_o) rfl rfl hl.1 rfl (lv_room (Nat.le_of_ble_eq_true rfl)) dL_law_1111 ⟨(by show _ ≤ 603072; omega), (by show _ ≤ 7215210; omega)⟩) hS (fun r1111 u1111 H locs h1111 hP hS => ?_)
  have hR2 : R2 x u1111.1 u1111.2 nb nn hr (t + 1) := by rw [h1111.1]; exact (hR.up ht9).tz
  have ho9 : outOK g ro := ho
  refine lv_pop hx hb dL_law_1114 rfl ?_
  refine lv_goto (tgt := 1271) hx hb dL_law_1115 (by decide) ?_
  exact hnext _ _ _ _ _ _ _ _ _ _ _ _ hR2 ho9 (by omega) (by omega) (by rw [cw_mw]; exact hP) hS (lv_sub hl [0, 1, 2, 3, 4, 5] rfl)

set_option maxHeartbeats 8000000 in
set_option maxRecDepth 100000 in
theorem law_c25 {p : Program} {e : Env} {s : State} {m : MethodId} {below : List Frame} {meth : Method} {c : Code} (l : Launch) (hst : l.stackTraces = false) {b N : Nat} {xs : Nat → Int32} (hN : N ≤ 2560) (C0 : lw_At p s m meth c b N xs) (g : gE) (L : Nat → Nat) (hJ : wj 125 L (fun q : Nat => s.heap.size ≤ q)) (hK : va_K g.1 vwCl (tysC g) s) (hE : EE SS (fun q : Nat => s.heap.size ≤ q) s) {t : Nat} (ht : 5 * t + 5 ≤ N) {x y : St} {ch : Int64} {nb nn hr : Nat} {ro : Nat → va_E} (hR : R2 x y ch nb nn hr t) (ho : outOK g ro) {cl sl : Nat} (hcl : cl + 100 ≤ 603072) (hsl : sl + 1000 ≤ 7215210) {H : Heap} {locs : List Loc} (hP : va_P g.1 vwCl (wl 125 L (cw g L x (mw g L y ch ro))) H) (hS : va_S (fun q : Nat => s.heap.size ≤ q) s.heap H locs) {ls : Array Slot} (hl : lv_has ls 9 [(0, .ref b), (1, .ref (L 0)), (2, .ref (L 106)), (3, .ref (L 123)), (4, .ref (L 124)), (5, .int (nI (5 * t)))]) (hnext : ∀ (x2 y2 : St) (ch2 : Int64) (nb2 nn2 hr2 : Nat) (ro2 : Nat → va_E) (cl2 sl2 : Nat) (H : Heap) (locs : List Loc) (ls : Array Slot), R2 x2 y2 ch2 nb2 nn2 hr2 (t + 1) → outOK g ro2 → cl2 ≤ cl + 8 → sl2 ≤ sl + 48 → va_P g.1 vwCl (wl 125 L (cw g L x2 (mw g L y2 ch2 ro2))) H → va_S (fun q : Nat => s.heap.size ≤ q) s.heap H locs → lv_has ls 9 [(0, .ref b), (1, .ref (L 0)), (2, .ref (L 106)), (3, .ref (L 123)), (4, .ref (L 124)), (5, .int (nI (5 * t)))] → W p l e room_1 s m #[Value.ref b] below meth c H locs cl2 sl2 (lw_Z below #[Value.ref b] s) (F0 m 1271 ls [])) : W p l e room_1 s m #[Value.ref b] below meth c H locs cl sl (lw_Z below #[Value.ref b] s) (F0 m 1118 ls []) := by
  obtain ⟨hx, hb, hr9, hml, hown, hts0, hX, hbl, hlocks, hgv⟩ := id C0
  have hown : s.vm.findClass RL = some m.cls := hown
  have hts : ∀ w ∈ wsL_law, w.before #[Value.ref b] s = true := fun w h => hts0 w (wsL_law_in w h)
  have hbA : ¬ (fun q : Nat => s.heap.size ≤ q) b := Nat.not_le.mpr hbl
  have hn : 125 ≤ 125 := Nat.le_refl _
  have hG := hR.gi
  have hnb := hG.nb6
  have hx0 := hG.x0
  have hnn := hG.nn40
  have hx1 := hG.x1
  have hsh := hG.sh
  have hrk := hG.rk
  have hbz := hR.b14
  obtain ⟨cnt, hcn, hx4⟩ := hR.cnt
  obtain ⟨⟨f, ho1⟩, ⟨fd, ho2⟩⟩ := id ho
  have htc : ∀ b, b < 6 → (fun b => (x 19 b 0).toNatClampNeg) b ≤ 1920 := fun b hb => hG.tc hb
  have hx19 : ∀ b, b < 6 → x 19 b 0 = nI ((fun b => (x 19 b 0).toNatClampNeg) b) := fun b hb => hG.x19 hb
  generalize (fun b => (x 19 b 0).toNatClampNeg) = tcs at htc hx19
  have hhr := hR.hr
  have hyh := hR.y1
  obtain ⟨a1, ea1⟩ : ∃ a, a = xs (nI (5 * t) + 1).toNatClampNeg := ⟨_, rfl⟩
  obtain ⟨a2, ea2⟩ : ∃ a, a = xs (nI (5 * t) + 2).toNatClampNeg := ⟨_, rfl⟩
  obtain ⟨a3, ea3⟩ : ∃ a, a = xs (nI (5 * t) + 3).toNatClampNeg := ⟨_, rfl⟩
  obtain ⟨a4, ea4⟩ : ∃ a, a = xs (nI (5 * t) + 4).toNatClampNeg := ⟨_, rfl⟩
  have ht9 : t < 512 := by omega
  refine lv_aload_n hx hb dL_law_1118 rfl (lv_at hl 1 rfl) ?_
  refine lv_aload_n hx hb dL_law_1119 rfl (lv_at hl 0 rfl) ?_
  refine lv_iload hx hb dL_law_1120 (lv_at hl 5 rfl) ?_
  refine lv_iconst (v := 1) hx hb dL_law_1122 (by decide) ?_
  refine lv_iadd hx hb dL_law_1123 ?_
  refine va_sld hx hb hX hbl hbA hS (i := (nI (5 * t)) + 1) (by rw [show nI (5 * t) + 1 = nI (5 * t + 1) from nI_add _ 1]; exact vp_in_nI (by omega) (by omega)) dL_law_1124 ?_
  rw [← ea1]
  refine lv_aload_n hx hb dL_law_1125 rfl (lv_at hl 0 rfl) ?_
  refine lv_iload hx hb dL_law_1126 (lv_at hl 5 rfl) ?_
  refine lv_iconst (v := 2) hx hb dL_law_1128 (by decide) ?_
  refine lv_iadd hx hb dL_law_1129 ?_
  refine va_sld hx hb hX hbl hbA hS (i := (nI (5 * t)) + 2) (by rw [show nI (5 * t) + 2 = nI (5 * t + 2) from nI_add _ 2]; exact vp_in_nI (by omega) (by omega)) dL_law_1130 ?_
  rw [← ea2]
  refine lv_aload_n hx hb dL_law_1131 rfl (lv_at hl 0 rfl) ?_
  refine lv_iload hx hb dL_law_1132 (lv_at hl 5 rfl) ?_
  refine lv_iconst (v := 3) hx hb dL_law_1134 (by decide) ?_
  refine lv_iadd hx hb dL_law_1135 ?_
  refine va_sld hx hb hX hbl hbA hS (i := (nI (5 * t)) + 3) (by rw [show nI (5 * t) + 3 = nI (5 * t + 3) from nI_add _ 3]; exact vp_in_nI (by omega) (by omega)) dL_law_1136 ?_
  rw [← ea3]
  refine lv_aload_n hx hb dL_law_1137 rfl (lv_at hl 3 rfl) ?_
  refine wx_calli (vx_runSW (As := [.ref (L 0), .int a1, .int a2, .int a3, .ref (L 123)]) (rest := []) ⟨hx, hb, hml, hown, hts⟩ (kl_cellAnew l hst g s.heap.size 125 L (by omega) x (mw g L y ch ro) nb hnb hx0 tcs htc hx19 a1 a2 a3 f ((mw_ge (by decide)).trans ho1)) (vx_cwSW 5 hts gL_law_L_cellAnew rfl rfl rfl (by decide +kernel) ⟨Nat.le_of_ble_eq_true rfl, Nat.le_of_ble_eq_true rfl⟩) (PW.preS3 (Nat.le_refl _) hJ hK hE hP hS) rfl rfl hl.1 rfl (lv_room (Nat.le_of_ble_eq_true rfl)) dL_law_1138 ⟨(by show _ ≤ 603072; omega), (by show _ ≤ 7215210; omega)⟩) hS (fun r1138 u1138 H locs h1138 hP hS => ?_)
  obtain ⟨ro2, e9, hc⟩ := c_cellAnew (nb := nb) (nn := nn) h1138
  rw [e9, cw_mw] at hP
  refine lv_istore (lv' := [(6, .int r1138), (0, .ref b), (1, .ref (L 0)), (2, .ref (L 106)), (3, .ref (L 123)), (4, .ref (L 124)), (5, .int (nI (5 * t)))]) hx hb dL_law_1141 hl (by decide) rfl (fun ls hl => ?_)
  refine lv_aload_n hx hb dL_law_1143 rfl (lv_at hl 3 rfl) ?_
  refine lv_aload_n hx hb dL_law_1144 rfl (lv_at hl 1 rfl) ?_
  refine lv_iload hx hb dL_law_1145 (lv_at hl 6 rfl) ?_
  refine lv_iconst (v := 1) hx hb dL_law_1147 (by decide) ?_
  refine lv_iadd hx hb dL_law_1148 ?_
  refine va_sld hx hb hX hbl hbA hS (i := (nI (5 * t)) + 1) (by rw [show nI (5 * t) + 1 = nI (5 * t + 1) from nI_add _ 1]; exact vp_in_nI (by omega) (by omega)) dL_law_1149 ?_
  rw [← ea1]
  refine lv_aload_n hx hb dL_law_1150 rfl (lv_at hl 1 rfl) ?_
  refine lv_iload hx hb dL_law_1151 (lv_at hl 6 rfl) ?_
  refine lv_iconst (v := 2) hx hb dL_law_1153 (by decide) ?_
  refine lv_iadd hx hb dL_law_1154 ?_
  refine va_sld hx hb hX hbl hbA hS (i := (nI (5 * t)) + 2) (by rw [show nI (5 * t) + 2 = nI (5 * t + 2) from nI_add _ 2]; exact vp_in_nI (by omega) (by omega)) dL_law_1155 ?_
  rw [← ea2]
  refine lv_aload_n hx hb dL_law_1156 rfl (lv_at hl 1 rfl) ?_
  refine lv_iload hx hb dL_law_1157 (lv_at hl 6 rfl) ?_
  refine lv_iconst (v := 3) hx hb dL_law_1159 (by decide) ?_
  refine lv_iadd hx hb dL_law_1160 ?_
  refine va_sld hx hb hX hbl hbA hS (i := (nI (5 * t)) + 3) (by rw [show nI (5 * t) + 3 = nI (5 * t + 3) from nI_add _ 3]; exact vp_in_nI (by omega) (by omega)) dL_law_1161 ?_
  rw [← ea3]
  refine wx_calli (va_runV (As := [.int a1, .int a2, .int a3]) (rest := []) ⟨hx, hb, hml, hown, hts⟩ (m_cellAnew l hst g s.heap.size 125 L (by omega) y ch (cw g L u1138.1 ro2) nb nn hR.mi a1 a2 a3) (cwV 3 hts gL_law_X4_cellAnew rfl rfl rfl (by decide +kernel) ⟨Nat.le_of_ble_eq_true rfl, Nat.le_of_ble_eq_true rfl⟩) (PW.preV3 (Nat.le_refl _) hJ hK hE hP hS (ci := 6) rfl (by omega) mw_o) rfl rfl hl.1 rfl (lv_room (Nat.le_of_ble_eq_true rfl)) dL_law_1162 ⟨(by show _ ≤ 603072; omega), (by show _ ≤ 7215210; omega)⟩) hS (fun r1162 u1162 H locs h1162 hP hS => ?_)
  obtain ⟨⟨nb2, nn2, hr2, hR2⟩, ho9⟩ := s_cellAnew (f := f) (r2 := r1162) ht9 hR ho htc hx19 hc h1162
  refine lv_istore (lv' := [(7, .int r1162), (6, .int r1138), (0, .ref b), (1, .ref (L 0)), (2, .ref (L 106)), (3, .ref (L 123)), (4, .ref (L 124)), (5, .int (nI (5 * t)))]) hx hb dL_law_1165 hl (by decide) rfl (fun ls hl => ?_)
  refine lv_goto (tgt := 1271) hx hb dL_law_1167 (by decide) ?_
  exact hnext _ _ _ _ _ _ _ _ _ _ _ _ hR2 ho9 (by omega) (by omega) (by rw [cw_mw]; exact hP) hS (lv_sub hl [2, 3, 4, 5, 6, 7] rfl)

set_option maxHeartbeats 8000000 in
set_option maxRecDepth 100000 in
theorem law_c26 {p : Program} {e : Env} {s : State} {m : MethodId} {below : List Frame} {meth : Method} {c : Code} (l : Launch) (hst : l.stackTraces = false) {b N : Nat} {xs : Nat → Int32} (hN : N ≤ 2560) (C0 : lw_At p s m meth c b N xs) (g : gE) (L : Nat → Nat) (hJ : wj 125 L (fun q : Nat => s.heap.size ≤ q)) (hK : va_K g.1 vwCl (tysC g) s) (hE : EE SS (fun q : Nat => s.heap.size ≤ q) s) {t : Nat} (ht : 5 * t + 5 ≤ N) {x y : St} {ch : Int64} {nb nn hr : Nat} {ro : Nat → va_E} (hR : R2 x y ch nb nn hr t) (ho : outOK g ro) {cl sl : Nat} (hcl : cl + 100 ≤ 603072) (hsl : sl + 1000 ≤ 7215210) {H : Heap} {locs : List Loc} (hP : va_P g.1 vwCl (wl 125 L (cw g L x (mw g L y ch ro))) H) (hS : va_S (fun q : Nat => s.heap.size ≤ q) s.heap H locs) {ls : Array Slot} (hl : lv_has ls 9 [(0, .ref b), (1, .ref (L 0)), (2, .ref (L 106)), (3, .ref (L 123)), (4, .ref (L 124)), (5, .int (nI (5 * t)))]) (hnext : ∀ (x2 y2 : St) (ch2 : Int64) (nb2 nn2 hr2 : Nat) (ro2 : Nat → va_E) (cl2 sl2 : Nat) (H : Heap) (locs : List Loc) (ls : Array Slot), R2 x2 y2 ch2 nb2 nn2 hr2 (t + 1) → outOK g ro2 → cl2 ≤ cl + 8 → sl2 ≤ sl + 48 → va_P g.1 vwCl (wl 125 L (cw g L x2 (mw g L y2 ch2 ro2))) H → va_S (fun q : Nat => s.heap.size ≤ q) s.heap H locs → lv_has ls 9 [(0, .ref b), (1, .ref (L 0)), (2, .ref (L 106)), (3, .ref (L 123)), (4, .ref (L 124)), (5, .int (nI (5 * t)))] → W p l e room_1 s m #[Value.ref b] below meth c H locs cl2 sl2 (lw_Z below #[Value.ref b] s) (F0 m 1271 ls [])) : W p l e room_1 s m #[Value.ref b] below meth c H locs cl sl (lw_Z below #[Value.ref b] s) (F0 m 1170 ls []) := by
  obtain ⟨hx, hb, hr9, hml, hown, hts0, hX, hbl, hlocks, hgv⟩ := id C0
  have hown : s.vm.findClass RL = some m.cls := hown
  have hts : ∀ w ∈ wsL_law, w.before #[Value.ref b] s = true := fun w h => hts0 w (wsL_law_in w h)
  have hbA : ¬ (fun q : Nat => s.heap.size ≤ q) b := Nat.not_le.mpr hbl
  have hn : 125 ≤ 125 := Nat.le_refl _
  have hG := hR.gi
  have hnb := hG.nb6
  have hx0 := hG.x0
  have hnn := hG.nn40
  have hx1 := hG.x1
  have hsh := hG.sh
  have hrk := hG.rk
  have hbz := hR.b14
  obtain ⟨cnt, hcn, hx4⟩ := hR.cnt
  obtain ⟨⟨f, ho1⟩, ⟨fd, ho2⟩⟩ := id ho
  have htc : ∀ b, b < 6 → (fun b => (x 19 b 0).toNatClampNeg) b ≤ 1920 := fun b hb => hG.tc hb
  have hx19 : ∀ b, b < 6 → x 19 b 0 = nI ((fun b => (x 19 b 0).toNatClampNeg) b) := fun b hb => hG.x19 hb
  generalize (fun b => (x 19 b 0).toNatClampNeg) = tcs at htc hx19
  have hhr := hR.hr
  have hyh := hR.y1
  obtain ⟨a1, ea1⟩ : ∃ a, a = xs (nI (5 * t) + 1).toNatClampNeg := ⟨_, rfl⟩
  obtain ⟨a2, ea2⟩ : ∃ a, a = xs (nI (5 * t) + 2).toNatClampNeg := ⟨_, rfl⟩
  obtain ⟨a3, ea3⟩ : ∃ a, a = xs (nI (5 * t) + 3).toNatClampNeg := ⟨_, rfl⟩
  obtain ⟨a4, ea4⟩ : ∃ a, a = xs (nI (5 * t) + 4).toNatClampNeg := ⟨_, rfl⟩
  have ht9 : t < 512 := by omega
  refine lv_aload_n hx hb dL_law_1170 rfl (lv_at hl 1 rfl) ?_
  refine wx_calll (va_runV (As := []) (rest := []) ⟨hx, hb, hml, hown, hts⟩ (k_changes l hst g s.heap.size 125 L (by omega) x (mw g L y ch ro) nb hnb hx0) (cwV 0 hts gL_law_X3_changes rfl rfl rfl (by decide +kernel) ⟨Nat.le_of_ble_eq_true rfl, Nat.le_of_ble_eq_true rfl⟩) (PW.preV3 (Nat.le_refl _) hJ hK hE hP hS (ci := 5) rfl (by omega) cw_d) rfl rfl hl.1 rfl (lv_room (Nat.le_of_ble_eq_true rfl)) dL_law_1171 ⟨(by show _ ≤ 603072; omega), (by show _ ≤ 7215210; omega)⟩) hS (fun r1171 u1171 H locs h1171 hP hS => ?_)
  rw [cw_mw] at hP
  refine lv_pop2_2 hx hb dL_law_1174 rfl ?_
  refine lv_aload_n hx hb dL_law_1175 rfl (lv_at hl 2 rfl) ?_
  refine wx_calll (va_runV (As := []) (rest := []) ⟨hx, hb, hml, hown, hts⟩ (m_changes l hst g s.heap.size 125 L (by omega) y ch (cw g L x ro) nb nn hR.mi ) (cwV 0 hts gL_law_X4_changes rfl rfl rfl (by decide +kernel) ⟨Nat.le_of_ble_eq_true rfl, Nat.le_of_ble_eq_true rfl⟩) (PW.preV3 (Nat.le_refl _) hJ hK hE hP hS (ci := 6) rfl (by omega) mw_o) rfl rfl hl.1 rfl (lv_room (Nat.le_of_ble_eq_true rfl)) dL_law_1176 ⟨(by show _ ≤ 603072; omega), (by show _ ≤ 7215210; omega)⟩) hS (fun r1176 u1176 H locs h1176 hP hS => ?_)
  have hR2 : R2 x u1176.1 u1176.2 nb nn hr (t + 1) := by rw [h1176.1]; exact (hR.up ht9).tz
  have ho9 : outOK g ro := ho
  refine lv_pop2_2 hx hb dL_law_1179 rfl ?_
  refine lv_goto (tgt := 1271) hx hb dL_law_1180 (by decide) ?_
  exact hnext _ _ _ _ _ _ _ _ _ _ _ _ hR2 ho9 (by omega) (by omega) (by rw [cw_mw]; exact hP) hS (lv_sub hl [0, 1, 2, 3, 4, 5] rfl)

set_option maxHeartbeats 8000000 in
set_option maxRecDepth 100000 in
theorem law_c27 {p : Program} {e : Env} {s : State} {m : MethodId} {below : List Frame} {meth : Method} {c : Code} (l : Launch) (hst : l.stackTraces = false) {b N : Nat} {xs : Nat → Int32} (hN : N ≤ 2560) (C0 : lw_At p s m meth c b N xs) (g : gE) (L : Nat → Nat) (hJ : wj 125 L (fun q : Nat => s.heap.size ≤ q)) (hK : va_K g.1 vwCl (tysC g) s) (hE : EE SS (fun q : Nat => s.heap.size ≤ q) s) {t : Nat} (ht : 5 * t + 5 ≤ N) {x y : St} {ch : Int64} {nb nn hr : Nat} {ro : Nat → va_E} (hR : R2 x y ch nb nn hr t) (ho : outOK g ro) {cl sl : Nat} (hcl : cl + 100 ≤ 603072) (hsl : sl + 1000 ≤ 7215210) {H : Heap} {locs : List Loc} (hP : va_P g.1 vwCl (wl 125 L (cw g L x (mw g L y ch ro))) H) (hS : va_S (fun q : Nat => s.heap.size ≤ q) s.heap H locs) {ls : Array Slot} (hl : lv_has ls 9 [(0, .ref b), (1, .ref (L 0)), (2, .ref (L 106)), (3, .ref (L 123)), (4, .ref (L 124)), (5, .int (nI (5 * t)))]) (hnext : ∀ (x2 y2 : St) (ch2 : Int64) (nb2 nn2 hr2 : Nat) (ro2 : Nat → va_E) (cl2 sl2 : Nat) (H : Heap) (locs : List Loc) (ls : Array Slot), R2 x2 y2 ch2 nb2 nn2 hr2 (t + 1) → outOK g ro2 → cl2 ≤ cl + 8 → sl2 ≤ sl + 48 → va_P g.1 vwCl (wl 125 L (cw g L x2 (mw g L y2 ch2 ro2))) H → va_S (fun q : Nat => s.heap.size ≤ q) s.heap H locs → lv_has ls 9 [(0, .ref b), (1, .ref (L 0)), (2, .ref (L 106)), (3, .ref (L 123)), (4, .ref (L 124)), (5, .int (nI (5 * t)))] → W p l e room_1 s m #[Value.ref b] below meth c H locs cl2 sl2 (lw_Z below #[Value.ref b] s) (F0 m 1271 ls [])) : W p l e room_1 s m #[Value.ref b] below meth c H locs cl sl (lw_Z below #[Value.ref b] s) (F0 m 1183 ls []) := by
  obtain ⟨hx, hb, hr9, hml, hown, hts0, hX, hbl, hlocks, hgv⟩ := id C0
  have hown : s.vm.findClass RL = some m.cls := hown
  have hts : ∀ w ∈ wsL_law, w.before #[Value.ref b] s = true := fun w h => hts0 w (wsL_law_in w h)
  have hbA : ¬ (fun q : Nat => s.heap.size ≤ q) b := Nat.not_le.mpr hbl
  have hn : 125 ≤ 125 := Nat.le_refl _
  have hG := hR.gi
  have hnb := hG.nb6
  have hx0 := hG.x0
  have hnn := hG.nn40
  have hx1 := hG.x1
  have hsh := hG.sh
  have hrk := hG.rk
  have hbz := hR.b14
  obtain ⟨cnt, hcn, hx4⟩ := hR.cnt
  obtain ⟨⟨f, ho1⟩, ⟨fd, ho2⟩⟩ := id ho
  have htc : ∀ b, b < 6 → (fun b => (x 19 b 0).toNatClampNeg) b ≤ 1920 := fun b hb => hG.tc hb
  have hx19 : ∀ b, b < 6 → x 19 b 0 = nI ((fun b => (x 19 b 0).toNatClampNeg) b) := fun b hb => hG.x19 hb
  generalize (fun b => (x 19 b 0).toNatClampNeg) = tcs at htc hx19
  have hhr := hR.hr
  have hyh := hR.y1
  obtain ⟨a1, ea1⟩ : ∃ a, a = xs (nI (5 * t) + 1).toNatClampNeg := ⟨_, rfl⟩
  obtain ⟨a2, ea2⟩ : ∃ a, a = xs (nI (5 * t) + 2).toNatClampNeg := ⟨_, rfl⟩
  obtain ⟨a3, ea3⟩ : ∃ a, a = xs (nI (5 * t) + 3).toNatClampNeg := ⟨_, rfl⟩
  obtain ⟨a4, ea4⟩ : ∃ a, a = xs (nI (5 * t) + 4).toNatClampNeg := ⟨_, rfl⟩
  have ht9 : t < 512 := by omega
  refine lv_aload_n hx hb dL_law_1183 rfl (lv_at hl 1 rfl) ?_
  refine lv_aload_n hx hb dL_law_1184 rfl (lv_at hl 0 rfl) ?_
  refine lv_iload hx hb dL_law_1185 (lv_at hl 5 rfl) ?_
  refine lv_iconst (v := 1) hx hb dL_law_1187 (by decide) ?_
  refine lv_iadd hx hb dL_law_1188 ?_
  refine va_sld hx hb hX hbl hbA hS (i := (nI (5 * t)) + 1) (by rw [show nI (5 * t) + 1 = nI (5 * t + 1) from nI_add _ 1]; exact vp_in_nI (by omega) (by omega)) dL_law_1189 ?_
  rw [← ea1]
  refine lv_aload_n hx hb dL_law_1190 rfl (lv_at hl 3 rfl) ?_
  refine wx_calli (vx_runSW (As := [.ref (L 0), .int a1, .ref (L 123)]) (rest := []) ⟨hx, hb, hml, hown, hts⟩ (kl_worst l hst g s.heap.size 125 L (by omega) x (mw g L y ch ro) nb hnb hx0 a1 f ((mw_ge (by decide)).trans ho1)) (vx_cwSW 3 hts gL_law_L_worst rfl rfl rfl (by decide +kernel) ⟨Nat.le_of_ble_eq_true rfl, Nat.le_of_ble_eq_true rfl⟩) (PW.preS3 (Nat.le_refl _) hJ hK hE hP hS) rfl rfl hl.1 rfl (lv_room (Nat.le_of_ble_eq_true rfl)) dL_law_1191 ⟨(by show _ ≤ 603072; omega), (by show _ ≤ 7215210; omega)⟩) hS (fun r1191 u1191 H locs h1191 hP hS => ?_)
  obtain ⟨ro2, e9, hc⟩ := c_worst (nb := nb) (nn := nn) h1191
  rw [e9, cw_mw] at hP
  refine lv_istore (lv' := [(6, .int r1191), (0, .ref b), (1, .ref (L 0)), (2, .ref (L 106)), (3, .ref (L 123)), (4, .ref (L 124)), (5, .int (nI (5 * t)))]) hx hb dL_law_1194 hl (by decide) rfl (fun ls hl => ?_)
  refine lv_aload_n hx hb dL_law_1196 rfl (lv_at hl 3 rfl) ?_
  refine lv_aload_n hx hb dL_law_1197 rfl (lv_at hl 1 rfl) ?_
  refine lv_iload hx hb dL_law_1198 (lv_at hl 6 rfl) ?_
  refine lv_iconst (v := 1) hx hb dL_law_1200 (by decide) ?_
  refine lv_iadd hx hb dL_law_1201 ?_
  refine va_sld hx hb hX hbl hbA hS (i := (nI (5 * t)) + 1) (by rw [show nI (5 * t) + 1 = nI (5 * t + 1) from nI_add _ 1]; exact vp_in_nI (by omega) (by omega)) dL_law_1202 ?_
  rw [← ea1]
  refine wx_calli (va_runV (As := [.int a1]) (rest := []) ⟨hx, hb, hml, hown, hts⟩ (m_worst l hst g s.heap.size 125 L (by omega) y ch (cw g L u1191.1 ro2) nb nn hR.mi a1) (cwV 1 hts gL_law_X4_worst rfl rfl rfl (by decide +kernel) ⟨Nat.le_of_ble_eq_true rfl, Nat.le_of_ble_eq_true rfl⟩) (PW.preV3 (Nat.le_refl _) hJ hK hE hP hS (ci := 6) rfl (by omega) mw_o) rfl rfl hl.1 rfl (lv_room (Nat.le_of_ble_eq_true rfl)) dL_law_1203 ⟨(by show _ ≤ 603072; omega), (by show _ ≤ 7215210; omega)⟩) hS (fun r1203 u1203 H locs h1203 hP hS => ?_)
  obtain ⟨⟨nb2, nn2, hr2, hR2⟩, ho9⟩ := s_worst (f := f) (r2 := r1203) ht9 hR ho hc h1203
  refine lv_istore (lv' := [(7, .int r1203), (6, .int r1191), (0, .ref b), (1, .ref (L 0)), (2, .ref (L 106)), (3, .ref (L 123)), (4, .ref (L 124)), (5, .int (nI (5 * t)))]) hx hb dL_law_1206 hl (by decide) rfl (fun ls hl => ?_)
  refine lv_goto (tgt := 1271) hx hb dL_law_1208 (by decide) ?_
  exact hnext _ _ _ _ _ _ _ _ _ _ _ _ hR2 ho9 (by omega) (by omega) (by rw [cw_mw]; exact hP) hS (lv_sub hl [2, 3, 4, 5, 6, 7] rfl)

set_option maxHeartbeats 8000000 in
set_option maxRecDepth 100000 in
theorem law_c28 {p : Program} {e : Env} {s : State} {m : MethodId} {below : List Frame} {meth : Method} {c : Code} (l : Launch) (hst : l.stackTraces = false) {b N : Nat} {xs : Nat → Int32} (hN : N ≤ 2560) (C0 : lw_At p s m meth c b N xs) (g : gE) (L : Nat → Nat) (hJ : wj 125 L (fun q : Nat => s.heap.size ≤ q)) (hK : va_K g.1 vwCl (tysC g) s) (hE : EE SS (fun q : Nat => s.heap.size ≤ q) s) {t : Nat} (ht : 5 * t + 5 ≤ N) {x y : St} {ch : Int64} {nb nn hr : Nat} {ro : Nat → va_E} (hR : R2 x y ch nb nn hr t) (ho : outOK g ro) {cl sl : Nat} (hcl : cl + 100 ≤ 603072) (hsl : sl + 1000 ≤ 7215210) {H : Heap} {locs : List Loc} (hP : va_P g.1 vwCl (wl 125 L (cw g L x (mw g L y ch ro))) H) (hS : va_S (fun q : Nat => s.heap.size ≤ q) s.heap H locs) {ls : Array Slot} (hl : lv_has ls 9 [(0, .ref b), (1, .ref (L 0)), (2, .ref (L 106)), (3, .ref (L 123)), (4, .ref (L 124)), (5, .int (nI (5 * t)))]) (hnext : ∀ (x2 y2 : St) (ch2 : Int64) (nb2 nn2 hr2 : Nat) (ro2 : Nat → va_E) (cl2 sl2 : Nat) (H : Heap) (locs : List Loc) (ls : Array Slot), R2 x2 y2 ch2 nb2 nn2 hr2 (t + 1) → outOK g ro2 → cl2 ≤ cl + 8 → sl2 ≤ sl + 48 → va_P g.1 vwCl (wl 125 L (cw g L x2 (mw g L y2 ch2 ro2))) H → va_S (fun q : Nat => s.heap.size ≤ q) s.heap H locs → lv_has ls 9 [(0, .ref b), (1, .ref (L 0)), (2, .ref (L 106)), (3, .ref (L 123)), (4, .ref (L 124)), (5, .int (nI (5 * t)))] → W p l e room_1 s m #[Value.ref b] below meth c H locs cl2 sl2 (lw_Z below #[Value.ref b] s) (F0 m 1271 ls [])) : W p l e room_1 s m #[Value.ref b] below meth c H locs cl sl (lw_Z below #[Value.ref b] s) (F0 m 1211 ls []) := by
  obtain ⟨hx, hb, hr9, hml, hown, hts0, hX, hbl, hlocks, hgv⟩ := id C0
  have hown : s.vm.findClass RL = some m.cls := hown
  have hts : ∀ w ∈ wsL_law, w.before #[Value.ref b] s = true := fun w h => hts0 w (wsL_law_in w h)
  have hbA : ¬ (fun q : Nat => s.heap.size ≤ q) b := Nat.not_le.mpr hbl
  have hn : 125 ≤ 125 := Nat.le_refl _
  have hG := hR.gi
  have hnb := hG.nb6
  have hx0 := hG.x0
  have hnn := hG.nn40
  have hx1 := hG.x1
  have hsh := hG.sh
  have hrk := hG.rk
  have hbz := hR.b14
  obtain ⟨cnt, hcn, hx4⟩ := hR.cnt
  obtain ⟨⟨f, ho1⟩, ⟨fd, ho2⟩⟩ := id ho
  have htc : ∀ b, b < 6 → (fun b => (x 19 b 0).toNatClampNeg) b ≤ 1920 := fun b hb => hG.tc hb
  have hx19 : ∀ b, b < 6 → x 19 b 0 = nI ((fun b => (x 19 b 0).toNatClampNeg) b) := fun b hb => hG.x19 hb
  generalize (fun b => (x 19 b 0).toNatClampNeg) = tcs at htc hx19
  have hhr := hR.hr
  have hyh := hR.y1
  obtain ⟨a1, ea1⟩ : ∃ a, a = xs (nI (5 * t) + 1).toNatClampNeg := ⟨_, rfl⟩
  obtain ⟨a2, ea2⟩ : ∃ a, a = xs (nI (5 * t) + 2).toNatClampNeg := ⟨_, rfl⟩
  obtain ⟨a3, ea3⟩ : ∃ a, a = xs (nI (5 * t) + 3).toNatClampNeg := ⟨_, rfl⟩
  obtain ⟨a4, ea4⟩ : ∃ a, a = xs (nI (5 * t) + 4).toNatClampNeg := ⟨_, rfl⟩
  have ht9 : t < 512 := by omega
  refine lv_aload_n hx hb dL_law_1211 rfl (lv_at hl 1 rfl) ?_
  refine wx_calll (va_runV (As := []) (rest := []) ⟨hx, hb, hml, hown, hts⟩ (k_checksum l hst g s.heap.size 125 L (by omega) x (mw g L y ch ro) nb hnb hx0) (cwV 0 hts gL_law_X3_checksum rfl rfl rfl (by decide +kernel) ⟨Nat.le_of_ble_eq_true rfl, Nat.le_of_ble_eq_true rfl⟩) (PW.preV3 (Nat.le_refl _) hJ hK hE hP hS (ci := 5) rfl (by omega) cw_d) rfl rfl hl.1 rfl (lv_room (Nat.le_of_ble_eq_true rfl)) dL_law_1212 ⟨(by show _ ≤ 603072; omega), (by show _ ≤ 7215210; omega)⟩) hS (fun r1212 u1212 H locs h1212 hP hS => ?_)
  rw [cw_mw] at hP
  refine lv_pop2_2 hx hb dL_law_1215 rfl ?_
  refine lv_aload_n hx hb dL_law_1216 rfl (lv_at hl 2 rfl) ?_
  refine wx_calll (va_runV (As := []) (rest := []) ⟨hx, hb, hml, hown, hts⟩ (m_checksum l hst g s.heap.size 125 L (by omega) y ch (cw g L x ro) nb nn hR.mi ) (cwV 0 hts gL_law_X4_checksum rfl rfl rfl (by decide +kernel) ⟨Nat.le_of_ble_eq_true rfl, Nat.le_of_ble_eq_true rfl⟩) (PW.preV3 (Nat.le_refl _) hJ hK hE hP hS (ci := 6) rfl (by omega) mw_o) rfl rfl hl.1 rfl (lv_room (Nat.le_of_ble_eq_true rfl)) dL_law_1217 ⟨(by show _ ≤ 603072; omega), (by show _ ≤ 7215210; omega)⟩) hS (fun r1217 u1217 H locs h1217 hP hS => ?_)
  have hR2 : R2 x u1217.1 u1217.2 nb nn hr (t + 1) := by rw [h1217.1]; exact (hR.up ht9).tz
  have ho9 : outOK g ro := ho
  refine lv_pop2_2 hx hb dL_law_1220 rfl ?_
  refine lv_goto (tgt := 1271) hx hb dL_law_1221 (by decide) ?_
  exact hnext _ _ _ _ _ _ _ _ _ _ _ _ hR2 ho9 (by omega) (by omega) (by rw [cw_mw]; exact hP) hS (lv_sub hl [0, 1, 2, 3, 4, 5] rfl)

set_option maxHeartbeats 8000000 in
set_option maxRecDepth 100000 in
theorem law_c29 {p : Program} {e : Env} {s : State} {m : MethodId} {below : List Frame} {meth : Method} {c : Code} (l : Launch) (hst : l.stackTraces = false) {b N : Nat} {xs : Nat → Int32} (hN : N ≤ 2560) (C0 : lw_At p s m meth c b N xs) (g : gE) (L : Nat → Nat) (hJ : wj 125 L (fun q : Nat => s.heap.size ≤ q)) (hK : va_K g.1 vwCl (tysC g) s) (hE : EE SS (fun q : Nat => s.heap.size ≤ q) s) {t : Nat} (ht : 5 * t + 5 ≤ N) {x y : St} {ch : Int64} {nb nn hr : Nat} {ro : Nat → va_E} (hR : R2 x y ch nb nn hr t) (ho : outOK g ro) {cl sl : Nat} (hcl : cl + 100 ≤ 603072) (hsl : sl + 1000 ≤ 7215210) {H : Heap} {locs : List Loc} (hP : va_P g.1 vwCl (wl 125 L (cw g L x (mw g L y ch ro))) H) (hS : va_S (fun q : Nat => s.heap.size ≤ q) s.heap H locs) {ls : Array Slot} (hl : lv_has ls 9 [(0, .ref b), (1, .ref (L 0)), (2, .ref (L 106)), (3, .ref (L 123)), (4, .ref (L 124)), (5, .int (nI (5 * t)))]) (hnext : ∀ (x2 y2 : St) (ch2 : Int64) (nb2 nn2 hr2 : Nat) (ro2 : Nat → va_E) (cl2 sl2 : Nat) (H : Heap) (locs : List Loc) (ls : Array Slot), R2 x2 y2 ch2 nb2 nn2 hr2 (t + 1) → outOK g ro2 → cl2 ≤ cl + 8 → sl2 ≤ sl + 48 → va_P g.1 vwCl (wl 125 L (cw g L x2 (mw g L y2 ch2 ro2))) H → va_S (fun q : Nat => s.heap.size ≤ q) s.heap H locs → lv_has ls 9 [(0, .ref b), (1, .ref (L 0)), (2, .ref (L 106)), (3, .ref (L 123)), (4, .ref (L 124)), (5, .int (nI (5 * t)))] → W p l e room_1 s m #[Value.ref b] below meth c H locs cl2 sl2 (lw_Z below #[Value.ref b] s) (F0 m 1271 ls [])) : W p l e room_1 s m #[Value.ref b] below meth c H locs cl sl (lw_Z below #[Value.ref b] s) (F0 m 1224 ls []) := by
  obtain ⟨hx, hb, hr9, hml, hown, hts0, hX, hbl, hlocks, hgv⟩ := id C0
  have hown : s.vm.findClass RL = some m.cls := hown
  have hts : ∀ w ∈ wsL_law, w.before #[Value.ref b] s = true := fun w h => hts0 w (wsL_law_in w h)
  have hbA : ¬ (fun q : Nat => s.heap.size ≤ q) b := Nat.not_le.mpr hbl
  have hn : 125 ≤ 125 := Nat.le_refl _
  have hG := hR.gi
  have hnb := hG.nb6
  have hx0 := hG.x0
  have hnn := hG.nn40
  have hx1 := hG.x1
  have hsh := hG.sh
  have hrk := hG.rk
  have hbz := hR.b14
  obtain ⟨cnt, hcn, hx4⟩ := hR.cnt
  obtain ⟨⟨f, ho1⟩, ⟨fd, ho2⟩⟩ := id ho
  have htc : ∀ b, b < 6 → (fun b => (x 19 b 0).toNatClampNeg) b ≤ 1920 := fun b hb => hG.tc hb
  have hx19 : ∀ b, b < 6 → x 19 b 0 = nI ((fun b => (x 19 b 0).toNatClampNeg) b) := fun b hb => hG.x19 hb
  generalize (fun b => (x 19 b 0).toNatClampNeg) = tcs at htc hx19
  have hhr := hR.hr
  have hyh := hR.y1
  obtain ⟨a1, ea1⟩ : ∃ a, a = xs (nI (5 * t) + 1).toNatClampNeg := ⟨_, rfl⟩
  obtain ⟨a2, ea2⟩ : ∃ a, a = xs (nI (5 * t) + 2).toNatClampNeg := ⟨_, rfl⟩
  obtain ⟨a3, ea3⟩ : ∃ a, a = xs (nI (5 * t) + 3).toNatClampNeg := ⟨_, rfl⟩
  obtain ⟨a4, ea4⟩ : ∃ a, a = xs (nI (5 * t) + 4).toNatClampNeg := ⟨_, rfl⟩
  have hfn : nb ≠ 0 → vf_n32 (FP.fdiv (FP.i2f (ssF x nb)) (FP.i2f (x 0 0 0))) := fun h0 => by obtain ⟨c9, h1, h2⟩ := ss_nat x nb; rw [h2, hx0]; exact (shr_ok nb (by omega) h0 c9 (by omega)).1
  have hfd : nb ≠ 0 → vf_n64 (FP.f2d (FP.fdiv (FP.i2f (ssF x nb)) (FP.i2f (x 0 0 0)))) := fun h0 => by obtain ⟨c9, h1, h2⟩ := ss_nat x nb; rw [h2, hx0]; exact (shr_ok nb (by omega) h0 c9 (by omega)).2
  have hfnM : nb ≠ 0 → vf_n32 (FP.fdiv (FP.i2f (ssM (st y 0 0 0 0) nb)) (FP.i2f ((st y 0 0 0 0) 3 0 0))) := fun h0 => by obtain ⟨c9, h1, h2⟩ := cnP_nat (fun k => ¬ st y 0 0 0 0 12 0 k = -1) nb; rw [show ssM (st y 0 0 0 0) nb = nI c9 from h2, show (st y 0 0 0 0) 3 0 0 = nI nb from (st_nr (by omega)).trans hR.mi.y3]; exact (shr_ok nb (by omega) h0 c9 (by omega)).1
  have ht9 : t < 512 := by omega
  refine lv_aload_n hx hb dL_law_1224 rfl (lv_at hl 1 rfl) ?_
  refine lv_aload hx hb dL_law_1225 (lv_at hl 4 rfl) ?_
  refine wx_calli (vx_runSW (As := [.ref (L 0), .ref (L 124)]) (rest := []) ⟨hx, hb, hml, hown, hts⟩ (kl_shownShare l hst g s.heap.size 125 L (by omega) x (mw g L y ch ro) nb hnb hx0 hsh hfn hfd fd ((mw_ge (by decide)).trans ho2)) (vx_cwSW 2 hts gL_law_L_shownShare rfl rfl rfl (by decide +kernel) ⟨Nat.le_of_ble_eq_true rfl, Nat.le_of_ble_eq_true rfl⟩) (PW.preS3 (Nat.le_refl _) hJ hK hE hP hS) rfl rfl hl.1 rfl (lv_room (Nat.le_of_ble_eq_true rfl)) dL_law_1227 ⟨(by show _ ≤ 603072; omega), (by show _ ≤ 7215210; omega)⟩) hS (fun r1227 u1227 H locs h1227 hP hS => ?_)
  obtain ⟨ro2, e9, hc⟩ := c_shownShare (nb := nb) (nn := nn) h1227
  rw [e9, cw_mw] at hP
  refine lv_istore (lv' := [(6, .int r1227), (0, .ref b), (1, .ref (L 0)), (2, .ref (L 106)), (3, .ref (L 123)), (4, .ref (L 124)), (5, .int (nI (5 * t)))]) hx hb dL_law_1230 hl (by decide) rfl (fun ls hl => ?_)
  refine lv_aload_n hx hb dL_law_1232 rfl (lv_at hl 3 rfl) ?_
  refine wx_callf (va_runV (As := []) (rest := []) ⟨hx, hb, hml, hown, hts⟩ (m_shownShare l hst g s.heap.size 125 L (by omega) y ch (cw g L u1227.1 ro2) nb nn hR.mi hfnM ) (cwV 0 hts gL_law_X4_shownShare rfl rfl rfl (by decide +kernel) ⟨Nat.le_of_ble_eq_true rfl, Nat.le_of_ble_eq_true rfl⟩) (PW.preV3 (Nat.le_refl _) hJ hK hE hP hS (ci := 6) rfl (by omega) mw_o) rfl rfl hl.1 rfl (lv_room (Nat.le_of_ble_eq_true rfl)) dL_law_1233 ⟨(by show _ ≤ 603072; omega), (by show _ ≤ 7215210; omega)⟩) hS (fun r1233 u1233 H locs h1233 hP hS => ?_)
  obtain ⟨⟨nb2, nn2, hr2, hR2⟩, ho9⟩ := s_shownShare (f := fd) (r2 := r1233) ht9 hR ho hc h1233
  refine lv_fstore (lv' := [(7, .float r1233), (6, .int r1227), (0, .ref b), (1, .ref (L 0)), (2, .ref (L 106)), (3, .ref (L 123)), (4, .ref (L 124)), (5, .int (nI (5 * t)))]) hx hb dL_law_1236 hl (by decide) rfl (fun ls hl => ?_)
  refine lv_goto (tgt := 1271) hx hb dL_law_1238 (by decide) ?_
  exact hnext _ _ _ _ _ _ _ _ _ _ _ _ hR2 ho9 (by omega) (by omega) (by rw [cw_mw]; exact hP) hS (lv_sub hl [2, 3, 4, 5, 6, 7] rfl)

set_option maxHeartbeats 8000000 in
set_option maxRecDepth 100000 in
theorem law_c30 {p : Program} {e : Env} {s : State} {m : MethodId} {below : List Frame} {meth : Method} {c : Code} (l : Launch) (hst : l.stackTraces = false) {b N : Nat} {xs : Nat → Int32} (hN : N ≤ 2560) (C0 : lw_At p s m meth c b N xs) (g : gE) (L : Nat → Nat) (hJ : wj 125 L (fun q : Nat => s.heap.size ≤ q)) (hK : va_K g.1 vwCl (tysC g) s) (hE : EE SS (fun q : Nat => s.heap.size ≤ q) s) {t : Nat} (ht : 5 * t + 5 ≤ N) {x y : St} {ch : Int64} {nb nn hr : Nat} {ro : Nat → va_E} (hR : R2 x y ch nb nn hr t) (ho : outOK g ro) {cl sl : Nat} (hcl : cl + 100 ≤ 603072) (hsl : sl + 1000 ≤ 7215210) {H : Heap} {locs : List Loc} (hP : va_P g.1 vwCl (wl 125 L (cw g L x (mw g L y ch ro))) H) (hS : va_S (fun q : Nat => s.heap.size ≤ q) s.heap H locs) {ls : Array Slot} (hl : lv_has ls 9 [(0, .ref b), (1, .ref (L 0)), (2, .ref (L 106)), (3, .ref (L 123)), (4, .ref (L 124)), (5, .int (nI (5 * t)))]) (hnext : ∀ (x2 y2 : St) (ch2 : Int64) (nb2 nn2 hr2 : Nat) (ro2 : Nat → va_E) (cl2 sl2 : Nat) (H : Heap) (locs : List Loc) (ls : Array Slot), R2 x2 y2 ch2 nb2 nn2 hr2 (t + 1) → outOK g ro2 → cl2 ≤ cl + 8 → sl2 ≤ sl + 48 → va_P g.1 vwCl (wl 125 L (cw g L x2 (mw g L y2 ch2 ro2))) H → va_S (fun q : Nat => s.heap.size ≤ q) s.heap H locs → lv_has ls 9 [(0, .ref b), (1, .ref (L 0)), (2, .ref (L 106)), (3, .ref (L 123)), (4, .ref (L 124)), (5, .int (nI (5 * t)))] → W p l e room_1 s m #[Value.ref b] below meth c H locs cl2 sl2 (lw_Z below #[Value.ref b] s) (F0 m 1271 ls [])) : W p l e room_1 s m #[Value.ref b] below meth c H locs cl sl (lw_Z below #[Value.ref b] s) (F0 m 1241 ls []) := by
  obtain ⟨hx, hb, hr9, hml, hown, hts0, hX, hbl, hlocks, hgv⟩ := id C0
  have hown : s.vm.findClass RL = some m.cls := hown
  have hts : ∀ w ∈ wsL_law, w.before #[Value.ref b] s = true := fun w h => hts0 w (wsL_law_in w h)
  have hbA : ¬ (fun q : Nat => s.heap.size ≤ q) b := Nat.not_le.mpr hbl
  have hn : 125 ≤ 125 := Nat.le_refl _
  have hG := hR.gi
  have hnb := hG.nb6
  have hx0 := hG.x0
  have hnn := hG.nn40
  have hx1 := hG.x1
  have hsh := hG.sh
  have hrk := hG.rk
  have hbz := hR.b14
  obtain ⟨cnt, hcn, hx4⟩ := hR.cnt
  obtain ⟨⟨f, ho1⟩, ⟨fd, ho2⟩⟩ := id ho
  have htc : ∀ b, b < 6 → (fun b => (x 19 b 0).toNatClampNeg) b ≤ 1920 := fun b hb => hG.tc hb
  have hx19 : ∀ b, b < 6 → x 19 b 0 = nI ((fun b => (x 19 b 0).toNatClampNeg) b) := fun b hb => hG.x19 hb
  generalize (fun b => (x 19 b 0).toNatClampNeg) = tcs at htc hx19
  have hhr := hR.hr
  have hyh := hR.y1
  obtain ⟨a1, ea1⟩ : ∃ a, a = xs (nI (5 * t) + 1).toNatClampNeg := ⟨_, rfl⟩
  obtain ⟨a2, ea2⟩ : ∃ a, a = xs (nI (5 * t) + 2).toNatClampNeg := ⟨_, rfl⟩
  obtain ⟨a3, ea3⟩ : ∃ a, a = xs (nI (5 * t) + 3).toNatClampNeg := ⟨_, rfl⟩
  obtain ⟨a4, ea4⟩ : ∃ a, a = xs (nI (5 * t) + 4).toNatClampNeg := ⟨_, rfl⟩
  have hfn : nb ≠ 0 → vf_n64 (FP.ddiv (FP.l2d (chgF x nb)) (FP.i2d (x 0 0 0 * 32))) := fun h0 => div_nn (l2d_nn _) (by rw [hx0]; exact (den_ok nb (by omega) h0).1)
  have hfnM : nb ≠ 0 → vf_n64 (FP.ddiv (FP.i2d (swM (st y 0 0 0 0) (32 * nb))) (FP.i2d (32 * (st y 0 0 0 0) 3 0 0))) := fun h0 => div_nn (i2d_nn _) (by rw [show (st y 0 0 0 0) 3 0 0 = nI nb from (st_nr (by omega)).trans hR.mi.y3]; exact (den_ok nb (by omega) h0).2)
  have ht9 : t < 512 := by omega
  refine lv_aload_n hx hb dL_law_1241 rfl (lv_at hl 1 rfl) ?_
  refine lv_aload hx hb dL_law_1242 (lv_at hl 4 rfl) ?_
  refine wx_calli (vx_runSW (As := [.ref (L 0), .ref (L 124)]) (rest := []) ⟨hx, hb, hml, hown, hts⟩ (kl_meanWear l hst g s.heap.size 125 L (by omega) x (mw g L y ch ro) nb hnb hx0 hfn fd ((mw_ge (by decide)).trans ho2)) (vx_cwSW 2 hts gL_law_L_meanWear rfl rfl rfl (by decide +kernel) ⟨Nat.le_of_ble_eq_true rfl, Nat.le_of_ble_eq_true rfl⟩) (PW.preS3 (Nat.le_refl _) hJ hK hE hP hS) rfl rfl hl.1 rfl (lv_room (Nat.le_of_ble_eq_true rfl)) dL_law_1244 ⟨(by show _ ≤ 603072; omega), (by show _ ≤ 7215210; omega)⟩) hS (fun r1244 u1244 H locs h1244 hP hS => ?_)
  obtain ⟨ro2, e9, hc⟩ := c_meanWear (nb := nb) (nn := nn) h1244
  rw [e9, cw_mw] at hP
  refine lv_istore (lv' := [(6, .int r1244), (0, .ref b), (1, .ref (L 0)), (2, .ref (L 106)), (3, .ref (L 123)), (4, .ref (L 124)), (5, .int (nI (5 * t)))]) hx hb dL_law_1247 hl (by decide) rfl (fun ls hl => ?_)
  refine lv_aload_n hx hb dL_law_1249 rfl (lv_at hl 3 rfl) ?_
  refine wx_calld (va_runV (As := []) (rest := []) ⟨hx, hb, hml, hown, hts⟩ (m_meanWear l hst g s.heap.size 125 L (by omega) y ch (cw g L u1244.1 ro2) nb nn hR.mi hfnM ) (cwV 0 hts gL_law_X4_meanWear rfl rfl rfl (by decide +kernel) ⟨Nat.le_of_ble_eq_true rfl, Nat.le_of_ble_eq_true rfl⟩) (PW.preV3 (Nat.le_refl _) hJ hK hE hP hS (ci := 6) rfl (by omega) mw_o) rfl rfl hl.1 rfl (lv_room (Nat.le_of_ble_eq_true rfl)) dL_law_1250 ⟨(by show _ ≤ 603072; omega), (by show _ ≤ 7215210; omega)⟩) hS (fun r1250 u1250 H locs h1250 hP hS => ?_)
  obtain ⟨⟨nb2, nn2, hr2, hR2⟩, ho9⟩ := s_meanWear (f := fd) (r2 := r1250) ht9 hR ho hc h1250
  refine lv_dstore (lv' := [(7, .double r1250), (6, .int r1244), (0, .ref b), (1, .ref (L 0)), (2, .ref (L 106)), (3, .ref (L 123)), (4, .ref (L 124)), (5, .int (nI (5 * t)))]) hx hb dL_law_1253 hl (by decide) rfl (fun ls hl => ?_)
  refine lv_goto (tgt := 1271) hx hb dL_law_1255 (by decide) ?_
  exact hnext _ _ _ _ _ _ _ _ _ _ _ _ hR2 ho9 (by omega) (by omega) (by rw [cw_mw]; exact hP) hS (lv_sub hl [2, 3, 4, 5, 6, 7] rfl)

set_option maxHeartbeats 8000000 in
set_option maxRecDepth 100000 in
theorem law_c31 {p : Program} {e : Env} {s : State} {m : MethodId} {below : List Frame} {meth : Method} {c : Code} (l : Launch) (hst : l.stackTraces = false) {b N : Nat} {xs : Nat → Int32} (hN : N ≤ 2560) (C0 : lw_At p s m meth c b N xs) (g : gE) (L : Nat → Nat) (hJ : wj 125 L (fun q : Nat => s.heap.size ≤ q)) (hK : va_K g.1 vwCl (tysC g) s) (hE : EE SS (fun q : Nat => s.heap.size ≤ q) s) {t : Nat} (ht : 5 * t + 5 ≤ N) {x y : St} {ch : Int64} {nb nn hr : Nat} {ro : Nat → va_E} (hR : R2 x y ch nb nn hr t) (ho : outOK g ro) {cl sl : Nat} (hcl : cl + 100 ≤ 603072) (hsl : sl + 1000 ≤ 7215210) {H : Heap} {locs : List Loc} (hP : va_P g.1 vwCl (wl 125 L (cw g L x (mw g L y ch ro))) H) (hS : va_S (fun q : Nat => s.heap.size ≤ q) s.heap H locs) {ls : Array Slot} (hl : lv_has ls 9 [(0, .ref b), (1, .ref (L 0)), (2, .ref (L 106)), (3, .ref (L 123)), (4, .ref (L 124)), (5, .int (nI (5 * t)))]) (hnext : ∀ (x2 y2 : St) (ch2 : Int64) (nb2 nn2 hr2 : Nat) (ro2 : Nat → va_E) (cl2 sl2 : Nat) (H : Heap) (locs : List Loc) (ls : Array Slot), R2 x2 y2 ch2 nb2 nn2 hr2 (t + 1) → outOK g ro2 → cl2 ≤ cl + 8 → sl2 ≤ sl + 48 → va_P g.1 vwCl (wl 125 L (cw g L x2 (mw g L y2 ch2 ro2))) H → va_S (fun q : Nat => s.heap.size ≤ q) s.heap H locs → lv_has ls 9 [(0, .ref b), (1, .ref (L 0)), (2, .ref (L 106)), (3, .ref (L 123)), (4, .ref (L 124)), (5, .int (nI (5 * t)))] → W p l e room_1 s m #[Value.ref b] below meth c H locs cl2 sl2 (lw_Z below #[Value.ref b] s) (F0 m 1271 ls [])) : W p l e room_1 s m #[Value.ref b] below meth c H locs cl sl (lw_Z below #[Value.ref b] s) (F0 m 1258 ls []) := by
  obtain ⟨hx, hb, hr9, hml, hown, hts0, hX, hbl, hlocks, hgv⟩ := id C0
  have hown : s.vm.findClass RL = some m.cls := hown
  have hts : ∀ w ∈ wsL_law, w.before #[Value.ref b] s = true := fun w h => hts0 w (wsL_law_in w h)
  have hbA : ¬ (fun q : Nat => s.heap.size ≤ q) b := Nat.not_le.mpr hbl
  have hn : 125 ≤ 125 := Nat.le_refl _
  have hG := hR.gi
  have hnb := hG.nb6
  have hx0 := hG.x0
  have hnn := hG.nn40
  have hx1 := hG.x1
  have hsh := hG.sh
  have hrk := hG.rk
  have hbz := hR.b14
  obtain ⟨cnt, hcn, hx4⟩ := hR.cnt
  obtain ⟨⟨f, ho1⟩, ⟨fd, ho2⟩⟩ := id ho
  have htc : ∀ b, b < 6 → (fun b => (x 19 b 0).toNatClampNeg) b ≤ 1920 := fun b hb => hG.tc hb
  have hx19 : ∀ b, b < 6 → x 19 b 0 = nI ((fun b => (x 19 b 0).toNatClampNeg) b) := fun b hb => hG.x19 hb
  generalize (fun b => (x 19 b 0).toNatClampNeg) = tcs at htc hx19
  have hhr := hR.hr
  have hyh := hR.y1
  obtain ⟨a1, ea1⟩ : ∃ a, a = xs (nI (5 * t) + 1).toNatClampNeg := ⟨_, rfl⟩
  obtain ⟨a2, ea2⟩ : ∃ a, a = xs (nI (5 * t) + 2).toNatClampNeg := ⟨_, rfl⟩
  obtain ⟨a3, ea3⟩ : ∃ a, a = xs (nI (5 * t) + 3).toNatClampNeg := ⟨_, rfl⟩
  obtain ⟨a4, ea4⟩ : ∃ a, a = xs (nI (5 * t) + 4).toNatClampNeg := ⟨_, rfl⟩
  have ht9 : t < 512 := by omega
  refine lv_aload_n hx hb dL_law_1258 rfl (lv_at hl 1 rfl) ?_
  refine wx_calli (va_runV (As := []) (rest := []) ⟨hx, hb, hml, hown, hts⟩ (k_isSound l hst g s.heap.size 125 L (by omega) x (mw g L y ch ro) nb hnb hx0 hsh tcs htc hx19) (cwV 0 hts gL_law_X3_isSound rfl rfl rfl (by decide +kernel) ⟨Nat.le_of_ble_eq_true rfl, Nat.le_of_ble_eq_true rfl⟩) (PW.preV3 (Nat.le_refl _) hJ hK hE hP hS (ci := 5) rfl (by omega) cw_d) rfl rfl hl.1 rfl (lv_room (Nat.le_of_ble_eq_true rfl)) dL_law_1259 ⟨(by show _ ≤ 603072; omega), (by show _ ≤ 7215210; omega)⟩) hS (fun r1259 u1259 H locs h1259 hP hS => ?_)
  rw [cw_mw] at hP
  refine lv_pop hx hb dL_law_1262 rfl ?_
  refine lv_aload_n hx hb dL_law_1263 rfl (lv_at hl 2 rfl) ?_
  refine wx_calli (va_runV (As := []) (rest := []) ⟨hx, hb, hml, hown, hts⟩ (m_isSound l hst g s.heap.size 125 L (by omega) y ch (cw g L x ro) nb nn hR.mi ) (cwV 0 hts gL_law_X4_isSound rfl rfl rfl (by decide +kernel) ⟨Nat.le_of_ble_eq_true rfl, Nat.le_of_ble_eq_true rfl⟩) (PW.preV3 (Nat.le_refl _) hJ hK hE hP hS (ci := 6) rfl (by omega) mw_o) rfl rfl hl.1 rfl (lv_room (Nat.le_of_ble_eq_true rfl)) dL_law_1264 ⟨(by show _ ≤ 603072; omega), (by show _ ≤ 7215210; omega)⟩) hS (fun r1264 u1264 H locs h1264 hP hS => ?_)
  have hR2 : R2 x u1264.1 u1264.2 nb nn hr (t + 1) := by rw [h1264.1]; exact (hR.up ht9).tz
  have ho9 : outOK g ro := ho
  refine lv_pop hx hb dL_law_1267 rfl ?_
  refine lv_goto (tgt := 1271) hx hb dL_law_1268 (by decide) ?_
  exact hnext _ _ _ _ _ _ _ _ _ _ _ _ hR2 ho9 (by omega) (by omega) (by rw [cw_mw]; exact hP) hS (lv_sub hl [0, 1, 2, 3, 4, 5] rfl)

end LWC
