/-! laid by wip/gen/p1spec.py, ctors.py -/
set_option maxHeartbeats 16000000 in
set_option maxRecDepth 100000 in
theorem kc_X3_init (l : Launch) (g : gE) (base : Nat) (L : Nat → Nat) (w : Nat → va_E) (a : Nat) (ha : L 0 = a) : Met l yX3_init wsX3_init ({ frames := 3, cells := 105, slots := 14010, locals := 90 }) (va_Pc [.ref a] (PW SS g base 1 L (va_up w 0 (.inr (5, [.null, .int 0, .null, .null, .int 0, .null, .int 0, .int 0]))))) (va_Qv (fun (u : Nat → Nat) => u 0 = a) (fun (u : Nat → Nat) t => wj 106 u (fun q : Nat => base ≤ q) ∧ PB g 106 u (dk g 6 40 u x0) t) (fun q => base ≤ q)) 105 14010 (fun q => base ≤ q) := by
  refine Met.ofW (cc := cX3_init) (maxL := 3) (ret := none) (by decide) rfl ?_
  intro p e s m args below meth c s₁ B hml hv
  obtain ⟨rfl, hPW⟩ := hv
  obtain ⟨hbs, hJ, hP, hK, hE⟩ := id hPW
  have hx := B.exec
  have hb := B.bytes
  have hr := B.returns
  have hts := atoms_spec (ws := wsX3_init) B.pre
  have hown : s.vm.findClass RX3 = some m.cls := findClass_of_methodNamed B.named
  have hlocks := B.notSynchronized
  have hin : meth.name = "<init>" := (name_of_methodNamed B.named B.method).1
  have hA : ∀ q : Nat, s.heap.size ≤ q → base ≤ q := fun q h => Nat.le_trans hbs h
  have hS : va_S (fun q : Nat => base ≤ q) s.heap s.heap [] := va_S.rf
  have hl := lv_entry ([.ref a]) (n := 3) (Nat.le_of_ble_eq_true rfl)
  rw [lg_entry_eq]
  generalize (lg_sl ([.ref a]) ++ List.replicate (3 - (lg_sl ([.ref a])).length) Slot.unset).toArray = ls at hl ⊢
  have hl : lv_has ls 3 [(0, .ref a)] := hl
  have iX3 : ∀ w ∈ wsX30, w ∈ wsX3_init := by decide +kernel
  have iX2 : ∀ w ∈ wsX20, w ∈ wsX3_init := by decide +kernel
  have iX0 : ∀ w ∈ wsX00, w ∈ wsX3_init := by decide +kernel
  have iX1 : ∀ w ∈ wsX10, w ∈ wsX3_init := by decide +kernel
  have hP : va_P g.1 vwCl (wl (1 + 0) (ups L 1 []) (ups (va_up w 0 (.inr (5, [.null, .int 0, .null, .null, .int 0, .null, .int 0, .int 0]))) 1 [])) s.heap := P_cast rfl (ups_nil _ _).symm (ups_nil _ _).symm hP
  have hJ : wj (1 + 0) (ups L 1 []) (fun q : Nat => base ≤ q) := J_cast rfl (ups_nil _ _).symm hJ
  refine lv_aload_n hx hb dX3_init_0 rfl (lv_at hl 0 rfl) ?_
  refine W.objInit hx hb hown (hts (.methodLink RX3 3 objectInit) (by decide +kernel)) (hts (.instanceMethod objectInit) (by decide +kernel)) (hts (.code objectInit ⟨#[0xb1]⟩ 1 none) (by decide +kernel)) rfl (by rw [hml]; exact hl.1) rfl dX3_init_1 (Nat.le_of_ble_eq_true rfl) (Nat.le_of_ble_eq_true rfl) ?_
  refine W.eq (g2 := F0 m 4 ls []) rfl ?_
  refine lv_aload_n hx hb dX3_init_4 rfl (lv_at hl 0 rfl) ?_
  refine lv_bipush (v := 6) hx hb dX3_init_5 (by decide) ?_
  refine wx_newq (C := RX0) (N' := 6) hx hb hown (hts (.classLink RX3 9 RX0) (by decide +kernel)) (hE.1 _ (ng_in (w := .arrayOver (.object RX0)) (by decide +kernel))) hK hP hJ hS hA (by decide) (by decide) (by decide) (Nat.le_of_ble_eq_true rfl) (Nat.le_of_ble_eq_true rfl) dX3_init_7 (k0 := 1) rfl (fun q1 H hP hJ hS => ?_)
  have hP : va_P g.1 vwCl (wl (1 + 1) (ups L 1 [q1]) (ups (va_up w 0 (.inr (5, [.null, .int 0, .null, .null, .int 0, .null, .int 0, .int 0]))) 1 [aQ g 1 6 (fun _ => none)])) H := P_cast rfl (ups_push (As := [])) (ups_push (As := [])) hP
  have hJ : wj (1 + 1) (ups L 1 [q1]) (fun q : Nat => base ≤ q) := J_cast rfl (ups_push (As := [])) hJ
  refine wx_putFA (D := g.1) (cl := vwCl) (ci := 5) (v := .ref q1) (ty := .array (.object "FerroDesk$Board")) (a := a) (w' := ups (va_up w 0 (.inr (5, [.ref q1, .int 0, .null, .null, .int 0, .null, .int 0, .int 0]))) 1 [aQ g 1 6 (fun _ => none)]) (C := RX3) (T := TX3) (N := 8) hx hb hts iX3 tyX3 tyX3_ok nmX3 hown hK hP hJ hS 0 (by omega) ((ups_lt (by omega)).trans (va_up_self _ _ _)) rfl 0 (by decide) (hts (.fieldLink RX3 11 "FerroDesk" "boards" "[LFerroDesk$Board;") (by decide +kernel)) (fun _ h9 => h9) rfl hin rfl (by decide +kernel) rfl rfl (Nat.le_of_ble_eq_true rfl) dX3_init_10 ((ups_lt (by omega)).trans ha) ((ups_in (by omega)).trans (by rw [up_up]; rfl)) (fun H locs hP hS => ?_)
  refine lv_aload_n hx hb dX3_init_13 rfl (lv_at hl 0 rfl) ?_
  refine lv_iconst (v := 0) hx hb dX3_init_14 (by decide) ?_
  refine wx_putA (D := g.1) (cl := vwCl) (ci := 5) (v := .int 0) (ty := .int) (a := a) (w' := ups (va_up w 0 (.inr (5, [.ref q1, .int 0, .null, .null, .int 0, .null, .int 0, .int 0]))) 1 [aQ g 1 6 (fun _ => none)]) (C := RX3) (T := TX3) (N := 8) hx hb hts iX3 tyX3 tyX3_ok nmX3 hown hK hP hJ hS 0 (by omega) ((ups_lt (by omega)).trans (va_up_self _ _ _)) rfl 1 (by decide) (hts (.fieldLink RX3 15 "FerroDesk" "boardCount" "I") (by decide +kernel)) (fun _ h9 => h9) rfl (by decide +kernel) rfl rfl (Nat.le_of_ble_eq_true rfl) dX3_init_15 ((ups_lt (by omega)).trans ha) ((ups_in (by omega)).trans (by rw [up_up]; rfl)) (fun H locs hP hS => ?_)
  refine lv_aload_n hx hb dX3_init_18 rfl (lv_at hl 0 rfl) ?_
  refine lv_bipush (v := 40) hx hb dX3_init_19 (by decide) ?_
  refine wx_newq (C := RX1) (N' := 40) hx hb hown (hts (.classLink RX3 19 RX1) (by decide +kernel)) (hE.1 _ (ng_in (w := .arrayOver (.object RX1)) (by decide +kernel))) hK hP hJ hS hA (by decide) (by decide) (by decide) (Nat.le_of_ble_eq_true rfl) (Nat.le_of_ble_eq_true rfl) dX3_init_21 (k0 := 2) rfl (fun q2 H hP hJ hS => ?_)
  have hP : va_P g.1 vwCl (wl (1 + 2) (ups L 1 [q1, q2]) (ups (va_up w 0 (.inr (5, [.ref q1, .int 0, .null, .null, .int 0, .null, .int 0, .int 0]))) 1 [aQ g 1 6 (fun _ => none), aQ g 2 40 (fun _ => none)])) H := P_cast rfl (ups_push (As := [q1])) (ups_push (As := [aQ g 1 6 (fun _ => none)])) hP
  have hJ : wj (1 + 2) (ups L 1 [q1, q2]) (fun q : Nat => base ≤ q) := J_cast rfl (ups_push (As := [q1])) hJ
  refine wx_putFA (D := g.1) (cl := vwCl) (ci := 5) (v := .ref q2) (ty := .array (.object "FerroDesk$Notice")) (a := a) (w' := ups (va_up w 0 (.inr (5, [.ref q1, .int 0, .ref q2, .null, .int 0, .null, .int 0, .int 0]))) 1 [aQ g 1 6 (fun _ => none), aQ g 2 40 (fun _ => none)]) (C := RX3) (T := TX3) (N := 8) hx hb hts iX3 tyX3 tyX3_ok nmX3 hown hK hP hJ hS 0 (by omega) ((ups_lt (by omega)).trans (va_up_self _ _ _)) rfl 2 (by decide) (hts (.fieldLink RX3 21 "FerroDesk" "notices" "[LFerroDesk$Notice;") (by decide +kernel)) (fun _ h9 => h9) rfl hin rfl (by decide +kernel) rfl rfl (Nat.le_of_ble_eq_true rfl) dX3_init_24 ((ups_lt (by omega)).trans ha) ((ups_in (by omega)).trans (by rw [up_up]; rfl)) (fun H locs hP hS => ?_)
  refine lv_aload_n hx hb dX3_init_27 rfl (lv_at hl 0 rfl) ?_
  refine lv_bipush (v := 40) hx hb dX3_init_28 (by decide) ?_
  refine wx_newq (C := RX1) (N' := 40) hx hb hown (hts (.classLink RX3 19 RX1) (by decide +kernel)) (hE.1 _ (ng_in (w := .arrayOver (.object RX1)) (by decide +kernel))) hK hP hJ hS hA (by decide) (by decide) (by decide) (Nat.le_of_ble_eq_true rfl) (Nat.le_of_ble_eq_true rfl) dX3_init_30 (k0 := 2) rfl (fun q3 H hP hJ hS => ?_)
  have hP : va_P g.1 vwCl (wl (1 + 3) (ups L 1 [q1, q2, q3]) (ups (va_up w 0 (.inr (5, [.ref q1, .int 0, .ref q2, .null, .int 0, .null, .int 0, .int 0]))) 1 [aQ g 1 6 (fun _ => none), aQ g 2 40 (fun _ => none), aQ g 2 40 (fun _ => none)])) H := P_cast rfl (ups_push (As := [q1, q2])) (ups_push (As := [aQ g 1 6 (fun _ => none), aQ g 2 40 (fun _ => none)])) hP
  have hJ : wj (1 + 3) (ups L 1 [q1, q2, q3]) (fun q : Nat => base ≤ q) := J_cast rfl (ups_push (As := [q1, q2])) hJ
  refine wx_putFA (D := g.1) (cl := vwCl) (ci := 5) (v := .ref q3) (ty := .array (.object "FerroDesk$Notice")) (a := a) (w' := ups (va_up w 0 (.inr (5, [.ref q1, .int 0, .ref q2, .ref q3, .int 0, .null, .int 0, .int 0]))) 1 [aQ g 1 6 (fun _ => none), aQ g 2 40 (fun _ => none), aQ g 2 40 (fun _ => none)]) (C := RX3) (T := TX3) (N := 8) hx hb hts iX3 tyX3 tyX3_ok nmX3 hown hK hP hJ hS 0 (by omega) ((ups_lt (by omega)).trans (va_up_self _ _ _)) rfl 3 (by decide) (hts (.fieldLink RX3 25 "FerroDesk" "ranked" "[LFerroDesk$Notice;") (by decide +kernel)) (fun _ h9 => h9) rfl hin rfl (by decide +kernel) rfl rfl (Nat.le_of_ble_eq_true rfl) dX3_init_33 ((ups_lt (by omega)).trans ha) ((ups_in (by omega)).trans (by rw [up_up]; rfl)) (fun H locs hP hS => ?_)
  refine lv_aload_n hx hb dX3_init_36 rfl (lv_at hl 0 rfl) ?_
  refine lv_iconst (v := 0) hx hb dX3_init_37 (by decide) ?_
  refine wx_putA (D := g.1) (cl := vwCl) (ci := 5) (v := .int 0) (ty := .int) (a := a) (w' := ups (va_up w 0 (.inr (5, [.ref q1, .int 0, .ref q2, .ref q3, .int 0, .null, .int 0, .int 0]))) 1 [aQ g 1 6 (fun _ => none), aQ g 2 40 (fun _ => none), aQ g 2 40 (fun _ => none)]) (C := RX3) (T := TX3) (N := 8) hx hb hts iX3 tyX3 tyX3_ok nmX3 hown hK hP hJ hS 0 (by omega) ((ups_lt (by omega)).trans (va_up_self _ _ _)) rfl 4 (by decide) (hts (.fieldLink RX3 28 "FerroDesk" "noticeCount" "I") (by decide +kernel)) (fun _ h9 => h9) rfl (by decide +kernel) rfl rfl (Nat.le_of_ble_eq_true rfl) dX3_init_38 ((ups_lt (by omega)).trans ha) ((ups_in (by omega)).trans (by rw [up_up]; rfl)) (fun H locs hP hS => ?_)
  refine lv_aload_n hx hb dX3_init_41 rfl (lv_at hl 0 rfl) ?_
  refine wx_new (ci := 4) (fs := [.null, .null, .null, .int 0]) (C := RX2) (T := TX2) (N := 4) hx hb hts iX2 tyX2 tyX2_ok hown (hts (.classLink RX3 31 RX2) (by decide +kernel)) (hts (.instantiable RX2 4) (by decide +kernel)) (hts (.initialized RX2) (by decide +kernel)) hK hP hJ hS hA rfl (fun j hj => by rcases (show j = 0 ∨ j = 1 ∨ j = 2 ∨ j = 3 by omega) with rfl | rfl | rfl | rfl <;> rfl) (Nat.le_of_ble_eq_true rfl) (Nat.le_of_ble_eq_true rfl) dX3_init_42 (fun q4 H hP hJ hS => ?_)
  refine lv_dup hx hb dX3_init_45 rfl ?_
  refine va_callv (va_runIN (As := []) (rest := [.ref q4, .ref a]) ⟨hx, hb, hml, hown, hts⟩ (kc_X2_init l g base (1 + 3 + 1) (va_up (ups L 1 [q1, q2, q3]) (1 + 3) q4) (ups (va_up w 0 (.inr (5, [.ref q1, .int 0, .ref q2, .ref q3, .int 0, .null, .int 0, .int 0]))) 1 [aQ g 1 6 (fun _ => none), aQ g 2 40 (fun _ => none), aQ g 2 40 (fun _ => none)]) (1 + 3) q4 (by omega) (va_up_self _ _ _)) ⟨va_cnB 0 hts gX3_init_X2_init_n33 rfl rfl rfl (hE.1 _ (ng_in (w := (Cond.methodLinkNest "FerroDesk" 33 yX2_init "FerroDesk")) (by decide +kernel))) (hts (.initialized RX2) (by decide +kernel)) (by decide +kernel) ⟨Nat.le_of_ble_eq_true rfl, Nat.le_of_ble_eq_true rfl⟩, rfl, hts (.instanceMethod yX2_init) (by decide +kernel)⟩ (hPW.preS2 hJ hP hS) rfl rfl hl.1 rfl (lv_room (Nat.le_of_ble_eq_true rfl)) dX3_init_46 ⟨Nat.le_of_ble_eq_true rfl, Nat.le_of_ble_eq_true rfl⟩) hS (fun _ _ h => h) (fun _ h => h) (fun u t H locs ht _ hu hB _ _ hS => ?_)
  obtain ⟨q5, q6, q7, rfl⟩ := hu
  obtain ⟨hJ, hB⟩ := hB
  have hP := PB.at hB ht
  have eL : ups (va_up (ups L 1 [q1, q2, q3]) (1 + 3) q4) (1 + 3 + 1) [q5, q6, q7] = ups L 1 [q1, q2, q3, q4, q5, q6, q7] := by rw [show va_up (ups L 1 [q1, q2, q3]) (1 + 3) q4 = ups L 1 [q1, q2, q3, q4] from ups_push (As := [q1, q2, q3])]; exact ups_ups (As := [q1, q2, q3, q4])
  have eW : ups (va_up (ups (va_up w 0 (.inr (5, [.ref q1, .int 0, .ref q2, .ref q3, .int 0, .null, .int 0, .int 0]))) 1 [aQ g 1 6 (fun _ => none), aQ g 2 40 (fun _ => none), aQ g 2 40 (fun _ => none)]) (1 + 3) (.inr (4, [.ref q5, .ref q6, .ref q7, .int 0]))) (1 + 3 + 1) [aI g 512 (fun _ => 0), aI g 512 (fun _ => 0), aI g 512 (fun _ => 0)] = ups (va_up w 0 (.inr (5, [.ref q1, .int 0, .ref q2, .ref q3, .int 0, .null, .int 0, .int 0]))) 1 [aQ g 1 6 (fun _ => none), aQ g 2 40 (fun _ => none), aQ g 2 40 (fun _ => none), .inr (4, [.ref q5, .ref q6, .ref q7, .int 0]), aI g 512 (fun _ => 0), aI g 512 (fun _ => 0), aI g 512 (fun _ => 0)] := by rw [show va_up (ups (va_up w 0 (.inr (5, [.ref q1, .int 0, .ref q2, .ref q3, .int 0, .null, .int 0, .int 0]))) 1 [aQ g 1 6 (fun _ => none), aQ g 2 40 (fun _ => none), aQ g 2 40 (fun _ => none)]) (1 + 3) (.inr (4, [.ref q5, .ref q6, .ref q7, .int 0]) : va_E) = ups (va_up w 0 (.inr (5, [.ref q1, .int 0, .ref q2, .ref q3, .int 0, .null, .int 0, .int 0]))) 1 [aQ g 1 6 (fun _ => none), aQ g 2 40 (fun _ => none), aQ g 2 40 (fun _ => none), .inr (4, [.ref q5, .ref q6, .ref q7, .int 0])] from ups_push (As := [aQ g 1 6 (fun _ => none), aQ g 2 40 (fun _ => none), aQ g 2 40 (fun _ => none)])]; exact ups_ups (As := [aQ g 1 6 (fun _ => none), aQ g 2 40 (fun _ => none), aQ g 2 40 (fun _ => none), .inr (4, [.ref q5, .ref q6, .ref q7, .int 0])])
  have hP : va_P g.1 vwCl (wl (1 + 7) (ups L 1 [q1, q2, q3, q4, q5, q6, q7]) (ups (va_up w 0 (.inr (5, [.ref q1, .int 0, .ref q2, .ref q3, .int 0, .null, .int 0, .int 0]))) 1 [aQ g 1 6 (fun _ => none), aQ g 2 40 (fun _ => none), aQ g 2 40 (fun _ => none), .inr (4, [.ref q5, .ref q6, .ref q7, .int 0]), aI g 512 (fun _ => 0), aI g 512 (fun _ => 0), aI g 512 (fun _ => 0)])) H := P_cast rfl eL eW hP
  have hJ : wj (1 + 7) (ups L 1 [q1, q2, q3, q4, q5, q6, q7]) (fun q : Nat => base ≤ q) := J_cast rfl eL hJ
  refine wx_putFA (D := g.1) (cl := vwCl) (ci := 5) (v := .ref q4) (ty := .object "FerroDesk$Readings") (a := a) (w' := ups (va_up w 0 (.inr (5, [.ref q1, .int 0, .ref q2, .ref q3, .int 0, .ref q4, .int 0, .int 0]))) 1 [aQ g 1 6 (fun _ => none), aQ g 2 40 (fun _ => none), aQ g 2 40 (fun _ => none), .inr (4, [.ref q5, .ref q6, .ref q7, .int 0]), aI g 512 (fun _ => 0), aI g 512 (fun _ => 0), aI g 512 (fun _ => 0)]) (C := RX3) (T := TX3) (N := 8) hx hb hts iX3 tyX3 tyX3_ok nmX3 hown hK hP hJ hS 0 (by omega) ((ups_lt (by omega)).trans (va_up_self _ _ _)) rfl 5 (by decide) (hts (.fieldLink RX3 34 "FerroDesk" "readings" "LFerroDesk$Readings;") (by decide +kernel)) (fun _ h9 => h9) rfl hin rfl (by decide +kernel) rfl rfl (Nat.le_of_ble_eq_true rfl) dX3_init_49 ((ups_lt (by omega)).trans ha) ((ups_in (by omega)).trans (by rw [up_up]; rfl)) (fun H locs hP hS => ?_)
  refine lv_aload_n hx hb dX3_init_52 rfl (lv_at hl 0 rfl) ?_
  refine lv_iconst (v := 2) hx hb dX3_init_53 (by decide) ?_
  refine wx_putA (D := g.1) (cl := vwCl) (ci := 5) (v := .int 2) (ty := .int) (a := a) (w' := ups (va_up w 0 (.inr (5, [.ref q1, .int 0, .ref q2, .ref q3, .int 0, .ref q4, .int 2, .int 0]))) 1 [aQ g 1 6 (fun _ => none), aQ g 2 40 (fun _ => none), aQ g 2 40 (fun _ => none), .inr (4, [.ref q5, .ref q6, .ref q7, .int 0]), aI g 512 (fun _ => 0), aI g 512 (fun _ => 0), aI g 512 (fun _ => 0)]) (C := RX3) (T := TX3) (N := 8) hx hb hts iX3 tyX3 tyX3_ok nmX3 hown hK hP hJ hS 0 (by omega) ((ups_lt (by omega)).trans (va_up_self _ _ _)) rfl 6 (by decide) (hts (.fieldLink RX3 38 "FerroDesk" "sun" "I") (by decide +kernel)) (fun _ h9 => h9) rfl (by decide +kernel) rfl rfl (Nat.le_of_ble_eq_true rfl) dX3_init_54 ((ups_lt (by omega)).trans ha) ((ups_in (by omega)).trans (by rw [up_up]; rfl)) (fun H locs hP hS => ?_)
  refine lv_aload_n hx hb dX3_init_57 rfl (lv_at hl 0 rfl) ?_
  refine lv_iconst (v := 0) hx hb dX3_init_58 (by decide) ?_
  refine wx_putA (D := g.1) (cl := vwCl) (ci := 5) (v := .int 0) (ty := .int) (a := a) (w' := ups (va_up w 0 (.inr (5, [.ref q1, .int 0, .ref q2, .ref q3, .int 0, .ref q4, .int 2, .int 0]))) 1 [aQ g 1 6 (fun _ => none), aQ g 2 40 (fun _ => none), aQ g 2 40 (fun _ => none), .inr (4, [.ref q5, .ref q6, .ref q7, .int 0]), aI g 512 (fun _ => 0), aI g 512 (fun _ => 0), aI g 512 (fun _ => 0)]) (C := RX3) (T := TX3) (N := 8) hx hb hts iX3 tyX3 tyX3_ok nmX3 hown hK hP hJ hS 0 (by omega) ((ups_lt (by omega)).trans (va_up_self _ _ _)) rfl 7 (by decide) (hts (.fieldLink RX3 41 "FerroDesk" "hour" "I") (by decide +kernel)) (fun _ h9 => h9) rfl (by decide +kernel) rfl rfl (Nat.le_of_ble_eq_true rfl) dX3_init_59 ((ups_lt (by omega)).trans ha) ((ups_in (by omega)).trans (by rw [up_up]; rfl)) (fun H locs hP hS => ?_)
  have hP : va_P g.1 vwCl (wl (8 + 3 * 0) (ups L 1 [q1, q2, q3, q4, q5, q6, q7]) (dk g 0 0 (ups L 1 [q1, q2, q3, q4, q5, q6, q7]) x0)) H := (wl_congr (fun k hk => ⟨rfl, dk_start (by omega)⟩) : wl (1 + 7) (ups L 1 [q1, q2, q3, q4, q5, q6, q7]) (ups (va_up w 0 (.inr (5, [.ref q1, .int 0, .ref q2, .ref q3, .int 0, .ref q4, .int 2, .int 0]))) 1 [aQ g 1 6 (fun _ => none), aQ g 2 40 (fun _ => none), aQ g 2 40 (fun _ => none), .inr (4, [.ref q5, .ref q6, .ref q7, .int 0]), aI g 512 (fun _ => 0), aI g 512 (fun _ => 0), aI g 512 (fun _ => 0)]) = wl 8 (ups L 1 [q1, q2, q3, q4, q5, q6, q7]) (dk g 0 0 (ups L 1 [q1, q2, q3, q4, q5, q6, q7]) x0)) ▸ hP
  refine lv_iconst (v := 0) hx hb dX3_init_62 (by decide) ?_
  refine lv_istore_n (lv' := [(1, .int 0), (0, .ref a)]) hx hb dX3_init_63 rfl hl (by decide) rfl (fun ls hl => ?_)
  have loop2 : ∀ (d i : Nat) (z : Int32) (L1 : Nat → Nat) (H : Heap) (locs : List Loc) (ls : Array Slot), i + d = 40 → z = nI i → L1 0 = a → wj (26 + 2 * i) L1 (fun q : Nat => base ≤ q) → va_P g.1 vwCl (wl (26 + 2 * i) L1 (dk g 6 i L1 x0)) H → va_S (fun q : Nat => base ≤ q) s.heap H locs → lv_has ls 3 [(1, .int z), (0, .ref a)] → W p l e (headSpec wsX3_init ({ frames := 3, cells := 105, slots := 14010, locals := 90 })).room s m ([.ref a] : List Value).toArray below meth c H locs (25 + 2 * i) (13410 + 15 * i) (MQ below (va_Qv (fun (u : Nat → Nat) => u 0 = a) (fun (u : Nat → Nat) t => wj 106 u (fun q : Nat => base ≤ q) ∧ PB g 106 u (dk g 6 40 u x0) t) (fun q => base ≤ q)) ([.ref a] : List Value).toArray s 105 14010 (fun q => base ≤ q)) (F0 m 91 ls []) := by
    intro d
    induction d with
    | zero =>
      intro i z L1 H locs ls hi ez h0 hJ hP hS hl
      refine lv_iload_n hx hb dX3_init_91 rfl (lv_at hl 0 rfl) ?_
      refine lv_bipush (v := 40) hx hb dX3_init_92 (by decide) ?_
      obtain rfl : i = 40 := by omega
      refine lv_icmp_ge (tgt := 126) hx hb dX3_init_94 (by decide) (fun _ => ?_) (fun c9 => absurd (by rw [ez]; decide) c9)
      exact W.vret hx hb hr (fun t ht hW => ⟨⟨L1, rfl, h0, hJ, PB.mk9 hP ht⟩, hS.F ht⟩) hS.2.2 dX3_init_126
    | succ d ih =>
      intro i z L1 H locs ls hi ez h0 hJ hP hS hl
      refine lv_iload_n hx hb dX3_init_91 rfl (lv_at hl 0 rfl) ?_
      refine lv_bipush (v := 40) hx hb dX3_init_92 (by decide) ?_
      have hi2 : i < 40 := by omega
      refine lv_icmp_ge (tgt := 126) hx hb dX3_init_94 (by decide) (fun c9 => absurd c9 (by rw [ez]; exact nI_ge (b := 40) hi2 (by decide))) (fun _ => ?_)
      refine wx_new (ci := 3) (fs := [.int 0, .null, .int 0, .int 0, .int 0, .int 0, .int 0, .int 0, .int 0]) (C := RX1) (T := TX1) (N := 9) hx hb hts iX1 tyX1 tyX1_ok hown (hts (.classLink RX3 19 RX1) (by decide +kernel)) (hts (.instantiable RX1 9) (by decide +kernel)) (hts (.initialized RX1) (by decide +kernel)) hK hP hJ hS hA rfl (fun j hj => by rcases (show j = 0 ∨ j = 1 ∨ j = 2 ∨ j = 3 ∨ j = 4 ∨ j = 5 ∨ j = 6 ∨ j = 7 ∨ j = 8 by omega) with rfl | rfl | rfl | rfl | rfl | rfl | rfl | rfl | rfl <;> rfl) (show 25 + 2 * i + 1 ≤ 105 by omega) (show 13410 + 15 * i + 9 ≤ 14010 by omega) dX3_init_97 (fun q H hP hJ hS => ?_)
      refine lv_dup hx hb dX3_init_100 rfl ?_
      refine lv_iload_n hx hb dX3_init_101 rfl (lv_at hl 0 rfl) ?_
      refine va_callv (va_runI (As := [.int z]) (rest := [.ref q]) ⟨hx, hb, hml, hown, hts⟩ (kc_X1_init l g base (26 + 2 * i + 1) (va_up L1 (26 + 2 * i) q) (dk g 6 i L1 x0) (26 + 2 * i) q (by omega) (va_up_self _ _ _) z) (cwI 1 hts gX3_init_X1_init rfl rfl rfl (hts (.initialized RX1) (by decide +kernel)) (hts (.methodLink RX3 45 yX1_init) (by decide +kernel)) (hts (.instanceMethod yX1_init) (by decide +kernel)) rfl (by decide +kernel) ⟨Nat.le_of_ble_eq_true rfl, Nat.le_of_ble_eq_true rfl⟩) (hPW.preS2 hJ hP hS) rfl rfl hl.1 rfl (lv_room (Nat.le_of_ble_eq_true rfl)) dX3_init_102 ⟨(show 25 + 2 * i + 1 + 1 ≤ 105 by omega), (show 13410 + 15 * i + 9 + 6 ≤ 14010 by omega)⟩) hS (fun _ _ h => h) (fun _ h => h) (fun u t H locs ht _ hu hB _ _ hS => ?_)
      obtain ⟨b1, rfl⟩ := hu
      obtain ⟨hJ, hB⟩ := hB
      have hP := PB.at hB ht
      refine lv_astore_n (lv' := [(2, .ref q), (1, .int z), (0, .ref a)]) hx hb dX3_init_105 rfl hl (by decide) rfl (fun ls hl => ?_)
      have eLt : ∀ j, j < 26 + 2 * i → (ups (va_up L1 (26 + 2 * i) q) (26 + 2 * i + 1) [b1]) j = L1 j := fun j hj => by rw [ups_lt (by omega), va_up_ne _ _ (by omega)]
      have eLq : (ups (va_up L1 (26 + 2 * i) q) (26 + 2 * i + 1) [b1]) (26 + 2 * i) = q := by rw [ups_lt (by omega), va_up_self]
      refine lv_aload_n hx hb dX3_init_106 rfl (lv_at hl 2 rfl) ?_
      refine wx_getA (D := g.1) (cl := vwCl) (ci := 5) (v := .ref (L1 2)) (fs := dF L1 x0) (C := RX3) (T := TX3) (N := 8) hx hb hts iX3 hown hK hP 0 (by omega) ((ups_lt (by omega)).trans ((va_up_ne _ _ (by omega)).trans dk_0)) rfl 2 (by decide) (hts (.fieldLink RX3 21 "FerroDesk" "notices" "[LFerroDesk$Notice;") (by decide +kernel)) (fun _ h9 => h9) rfl dX3_init_107 ((eLt 0 (by omega)).trans h0) ?_
      refine lv_iload_n hx hb dX3_init_110 rfl (lv_at hl 1 rfl) ?_
      refine lv_aload_n hx hb dX3_init_111 rfl (lv_at hl 0 rfl) ?_
      refine wx_aastA (D := g.1) (cl := vwCl) (f := fun j => if j < i then some (L1 (26 + 2 * j)) else none) (w' := va_up (ups (va_up (dk g 6 i L1 x0) (26 + 2 * i) (.inr (3, [.int z, .ref b1, .int 0, .int 0, .int 0, .int 0, .int 0, .int 0, .int 0]))) (26 + 2 * i + 1) [aI g 6 (fun _ => 0)]) 2 (aQ g 2 40 (va_up (fun j => if j < i then some (L1 (26 + 2 * j)) else none) i (some q)))) hx hb hK hP hJ hS 2 2 (26 + 2 * i) 3 (by omega) (by omega) ((ups_lt (by omega)).trans ((va_up_ne _ _ (by omega)).trans dk_2)) rfl ((ups_lt (by omega)).trans (va_up_self _ _ _)) rfl (i := z) (by rw [ez]; exact vp_in_nI hi2 (by decide)) dX3_init_112 (eLt 2 (by omega)) eLq (by rw [ez, nI_clamp (by omega)] <;> rfl) (fun H locs hP hS => ?_)
      refine lv_aload_n hx hb dX3_init_113 rfl (lv_at hl 2 rfl) ?_
      refine wx_getA (D := g.1) (cl := vwCl) (ci := 5) (v := .ref (L1 3)) (fs := dF L1 x0) (C := RX3) (T := TX3) (N := 8) hx hb hts iX3 hown hK hP 0 (by omega) ((va_up_ne _ _ (by omega)).trans ((ups_lt (by omega)).trans ((va_up_ne _ _ (by omega)).trans dk_0))) rfl 3 (by decide) (hts (.fieldLink RX3 25 "FerroDesk" "ranked" "[LFerroDesk$Notice;") (by decide +kernel)) (fun _ h9 => h9) rfl dX3_init_114 ((eLt 0 (by omega)).trans h0) ?_
      refine lv_iload_n hx hb dX3_init_117 rfl (lv_at hl 1 rfl) ?_
      refine lv_aload_n hx hb dX3_init_118 rfl (lv_at hl 0 rfl) ?_
      refine wx_aastA (D := g.1) (cl := vwCl) (f := fun j => if j < i then some (L1 (26 + 2 * (x0 43 0 j).toNatClampNeg)) else none) (w' := va_up (va_up (ups (va_up (dk g 6 i L1 x0) (26 + 2 * i) (.inr (3, [.int z, .ref b1, .int 0, .int 0, .int 0, .int 0, .int 0, .int 0, .int 0]))) (26 + 2 * i + 1) [aI g 6 (fun _ => 0)]) 2 (aQ g 2 40 (va_up (fun j => if j < i then some (L1 (26 + 2 * j)) else none) i (some q)))) 3 (aQ g 2 40 (va_up (fun j => if j < i then some (L1 (26 + 2 * (x0 43 0 j).toNatClampNeg)) else none) i (some q)))) hx hb hK hP hJ hS 3 2 (26 + 2 * i) 3 (by omega) (by omega) ((va_up_ne _ _ (by omega)).trans ((ups_lt (by omega)).trans ((va_up_ne _ _ (by omega)).trans dk_3))) rfl ((va_up_ne _ _ (by omega)).trans ((ups_lt (by omega)).trans (va_up_self _ _ _))) rfl (i := z) (by rw [ez]; exact vp_in_nI hi2 (by decide)) dX3_init_119 (eLt 3 (by omega)) eLq (by rw [ez, nI_clamp (by omega)] <;> rfl) (fun H locs hP hS => ?_)
      obtain ⟨z9, ez9⟩ : ∃ y : Int32, y = z + 1 := ⟨_, rfl⟩
      refine lv_iinc (v := z9) (lv' := [(1, .int z9), (2, .ref q), (0, .ref a)]) hx hb dX3_init_120 hl (k := 1) rfl (by rw [ez9]; rfl) (by decide) rfl (fun ls hl => ?_)
      refine lv_goto (tgt := 91) hx hb dX3_init_123 (by decide) ?_
      refine W.widen (k := 25 + 2 * (i + 1)) (n := 13410 + 15 * (i + 1)) (by omega) (by omega) ?_
      exact ih (i + 1) z9 (ups (va_up L1 (26 + 2 * i) q) (26 + 2 * i + 1) [b1]) _ _ _ (by omega) (by rw [ez9, ez, nI_1]) ((eLt 0 (by omega)).trans h0) (J_cast (by omega) rfl hJ) ((wl_congr (fun k hk => ⟨rfl, by rw [ez]; exact dk_notice hi2 (by omega)⟩) : wl (26 + 2 * (i + 1)) (ups (va_up L1 (26 + 2 * i) q) (26 + 2 * i + 1) [b1]) (va_up (va_up (ups (va_up (dk g 6 i L1 x0) (26 + 2 * i) (.inr (3, [.int z, .ref b1, .int 0, .int 0, .int 0, .int 0, .int 0, .int 0, .int 0]))) (26 + 2 * i + 1) [aI g 6 (fun _ => 0)]) 2 (aQ g 2 40 (va_up (fun j => if j < i then some (L1 (26 + 2 * j)) else none) i (some q)))) 3 (aQ g 2 40 (va_up (fun j => if j < i then some (L1 (26 + 2 * (x0 43 0 j).toNatClampNeg)) else none) i (some q)))) = wl (26 + 2 * (i + 1)) (ups (va_up L1 (26 + 2 * i) q) (26 + 2 * i + 1) [b1]) (dk g 6 (i + 1) (ups (va_up L1 (26 + 2 * i) q) (26 + 2 * i + 1) [b1]) x0)) ▸ (P_cast (by omega) rfl rfl hP)) hS (lv_sub hl [0, 2] rfl)
  have loop1 : ∀ (d i : Nat) (z : Int32) (L1 : Nat → Nat) (H : Heap) (locs : List Loc) (ls : Array Slot), i + d = 6 → z = nI i → L1 0 = a → wj (8 + 3 * i) L1 (fun q : Nat => base ≤ q) → va_P g.1 vwCl (wl (8 + 3 * i) L1 (dk g i 0 L1 x0)) H → va_S (fun q : Nat => base ≤ q) s.heap H locs → lv_has ls 3 [(1, .int z), (0, .ref a)] → W p l e (headSpec wsX3_init ({ frames := 3, cells := 105, slots := 14010, locals := 90 })).room s m ([.ref a] : List Value).toArray below meth c H locs (7 + 3 * i) (1626 + 1964 * i) (MQ below (va_Qv (fun (u : Nat → Nat) => u 0 = a) (fun (u : Nat → Nat) t => wj 106 u (fun q : Nat => base ≤ q) ∧ PB g 106 u (dk g 6 40 u x0) t) (fun q => base ≤ q)) ([.ref a] : List Value).toArray s 105 14010 (fun q => base ≤ q)) (F0 m 64 ls []) := by
    intro d
    induction d with
    | zero =>
      intro i z L1 H locs ls hi ez h0 hJ hP hS hl
      refine lv_iload_n hx hb dX3_init_64 rfl (lv_at hl 0 rfl) ?_
      refine lv_bipush (v := 6) hx hb dX3_init_65 (by decide) ?_
      obtain rfl : i = 6 := by omega
      refine lv_icmp_ge (tgt := 89) hx hb dX3_init_67 (by decide) (fun _ => ?_) (fun c9 => absurd (by rw [ez]; decide) c9)
      refine lv_iconst (v := 0) hx hb dX3_init_89 (by decide) ?_
      refine lv_istore_n (lv' := [(1, .int 0), (0, .ref a)]) hx hb dX3_init_90 rfl hl (by decide) rfl (fun ls hl => ?_)
      exact loop2 40 0 0 L1 _ _ _ rfl rfl h0 hJ hP hS hl
    | succ d ih =>
      intro i z L1 H locs ls hi ez h0 hJ hP hS hl
      refine lv_iload_n hx hb dX3_init_64 rfl (lv_at hl 0 rfl) ?_
      refine lv_bipush (v := 6) hx hb dX3_init_65 (by decide) ?_
      have hi2 : i < 6 := by omega
      refine lv_icmp_ge (tgt := 89) hx hb dX3_init_67 (by decide) (fun c9 => absurd c9 (by rw [ez]; exact nI_ge (b := 6) hi2 (by decide))) (fun _ => ?_)
      refine lv_aload_n hx hb dX3_init_70 rfl (lv_at hl 1 rfl) ?_
      refine wx_getA (D := g.1) (cl := vwCl) (ci := 5) (v := .ref (L1 1)) (fs := dF L1 x0) (C := RX3) (T := TX3) (N := 8) hx hb hts iX3 hown hK hP 0 (by omega) dk_0 rfl 0 (by decide) (hts (.fieldLink RX3 11 "FerroDesk" "boards" "[LFerroDesk$Board;") (by decide +kernel)) (fun _ h9 => h9) rfl dX3_init_71 h0 ?_
      refine lv_iload_n hx hb dX3_init_74 rfl (lv_at hl 0 rfl) ?_
      refine wx_new (ci := 2) (fs := [.int 0, .int 0, .null, .int 0, .int 0, .int 0, .null, .int 0, .int 0, .int 0, .null, .int 0]) (C := RX0) (T := TX0) (N := 12) hx hb hts iX0 tyX0 tyX0_ok hown (hts (.classLink RX3 9 RX0) (by decide +kernel)) (hts (.instantiable RX0 12) (by decide +kernel)) (hts (.initialized RX0) (by decide +kernel)) hK hP hJ hS hA rfl (fun j hj => by rcases (show j = 0 ∨ j = 1 ∨ j = 2 ∨ j = 3 ∨ j = 4 ∨ j = 5 ∨ j = 6 ∨ j = 7 ∨ j = 8 ∨ j = 9 ∨ j = 10 ∨ j = 11 by omega) with rfl | rfl | rfl | rfl | rfl | rfl | rfl | rfl | rfl | rfl | rfl | rfl <;> rfl) (show 7 + 3 * i + 1 ≤ 105 by omega) (show 1626 + 1964 * i + 12 ≤ 14010 by omega) dX3_init_75 (fun q H hP hJ hS => ?_)
      refine lv_dup hx hb dX3_init_78 rfl ?_
      refine va_callv (va_runIN (As := []) (rest := [.ref q, .int z, .ref (L1 1)]) ⟨hx, hb, hml, hown, hts⟩ (kc_X0_init l g base (8 + 3 * i + 1) (va_up L1 (8 + 3 * i) q) (dk g i 0 L1 x0) (8 + 3 * i) q (by omega) (va_up_self _ _ _)) ⟨va_cnB 0 hts gX3_init_X0_init_n44 rfl rfl rfl (hE.1 _ (ng_in (w := (Cond.methodLinkNest "FerroDesk" 44 yX0_init "FerroDesk")) (by decide +kernel))) (hts (.initialized RX0) (by decide +kernel)) (by decide +kernel) ⟨Nat.le_of_ble_eq_true rfl, Nat.le_of_ble_eq_true rfl⟩, rfl, hts (.instanceMethod yX0_init) (by decide +kernel)⟩ (hPW.preS2 hJ hP hS) rfl rfl hl.1 rfl (lv_room (Nat.le_of_ble_eq_true rfl)) dX3_init_79 ⟨(show 7 + 3 * i + 1 + 2 ≤ 105 by omega), (show 1626 + 1964 * i + 12 + 1952 ≤ 14010 by omega)⟩) hS (fun _ _ h => h) (fun _ h => h) (fun u t H locs ht _ hu hB _ _ hS => ?_)
      obtain ⟨b1, b2, rfl⟩ := hu
      obtain ⟨hJ, hB⟩ := hB
      have hP := PB.at hB ht
      have eLt : ∀ j, j < 8 + 3 * i → (ups (va_up L1 (8 + 3 * i) q) (8 + 3 * i + 1) [b1, b2]) j = L1 j := fun j hj => by rw [ups_lt (by omega), va_up_ne _ _ (by omega)]
      have eLq : (ups (va_up L1 (8 + 3 * i) q) (8 + 3 * i + 1) [b1, b2]) (8 + 3 * i) = q := by rw [ups_lt (by omega), va_up_self]
      refine wx_aastA (D := g.1) (cl := vwCl) (f := fun j => if j < i then some (L1 (8 + 3 * j)) else none) (w' := va_up (ups (va_up (dk g i 0 L1 x0) (8 + 3 * i) (.inr (2, bN b1 b2))) (8 + 3 * i + 1) [aI g 32 (fun _ => 0), aI g 1920 (fun _ => 0)]) 1 (aQ g 1 6 (va_up (fun j => if j < i then some (L1 (8 + 3 * j)) else none) i (some q)))) hx hb hK hP hJ hS 1 1 (8 + 3 * i) 2 (by omega) (by omega) ((ups_lt (by omega)).trans ((va_up_ne _ _ (by omega)).trans dk_1)) rfl ((ups_lt (by omega)).trans (va_up_self _ _ _)) rfl (i := z) (by rw [ez]; exact vp_in_nI hi2 (by decide)) dX3_init_82 (eLt 1 (by omega)) eLq (by rw [ez, nI_clamp (by omega)]; rfl) (fun H locs hP hS => ?_)
      obtain ⟨z9, ez9⟩ : ∃ y : Int32, y = z + 1 := ⟨_, rfl⟩
      refine lv_iinc (v := z9) (lv' := [(1, .int z9), (0, .ref a)]) hx hb dX3_init_83 hl (k := 0) rfl (by rw [ez9]; rfl) (by decide) rfl (fun ls hl => ?_)
      refine lv_goto (tgt := 64) hx hb dX3_init_86 (by decide) ?_
      refine W.widen (k := 7 + 3 * (i + 1)) (n := 1626 + 1964 * (i + 1)) (by omega) (by omega) ?_
      exact ih (i + 1) z9 (ups (va_up L1 (8 + 3 * i) q) (8 + 3 * i + 1) [b1, b2]) _ _ _ (by omega) (by rw [ez9, ez, nI_1]) ((eLt 0 (by omega)).trans h0) (J_cast (by omega) rfl hJ) ((wl_congr (fun k hk => ⟨rfl, dk_board hi2 (by omega)⟩) : wl (8 + 3 * (i + 1)) (ups (va_up L1 (8 + 3 * i) q) (8 + 3 * i + 1) [b1, b2]) (va_up (ups (va_up (dk g i 0 L1 x0) (8 + 3 * i) (.inr (2, bN b1 b2))) (8 + 3 * i + 1) [aI g 32 (fun _ => 0), aI g 1920 (fun _ => 0)]) 1 (aQ g 1 6 (va_up (fun j => if j < i then some (L1 (8 + 3 * j)) else none) i (some q)))) = wl (8 + 3 * (i + 1)) (ups (va_up L1 (8 + 3 * i) q) (8 + 3 * i + 1) [b1, b2]) (dk g (i + 1) 0 (ups (va_up L1 (8 + 3 * i) q) (8 + 3 * i + 1) [b1, b2]) x0)) ▸ (P_cast (by omega) rfl rfl hP)) hS hl
  exact loop1 6 0 0 (ups L 1 [q1, q2, q3, q4, q5, q6, q7]) _ _ _ rfl rfl ((ups_lt (by omega)).trans ha) hJ hP hS hl
