/-! laid by wip/gen/p1spec.py, ctors.py -/
set_option maxHeartbeats 8000000 in
set_option maxRecDepth 100000 in
theorem kc_X0_init (l : Launch) (g : gE) (base n : Nat) (L : Nat → Nat) (w : Nat → va_E) (k0 a : Nat) (hk : k0 < n) (ha : L k0 = a) : Met l yX0_init wsX0_init ({ frames := 1, cells := 2, slots := 1952, locals := 20 }) (va_Pc [.ref a] (PW SS g base n L (va_up w k0 (.inr (2, [.int 0, .int 0, .null, .int 0, .int 0, .int 0, .null, .int 0, .int 0, .int 0, .null, .int 0]))))) (va_Qv (fun (u : List Nat) => ∃ q1 q2 : Nat, u = [q1, q2]) (fun (u : List Nat) t => wj (n + 2) (ups L n u) (fun q : Nat => base ≤ q) ∧ PB g (n + 2) (ups L n u) (ups (va_up w k0 (.inr (2, [.int 0, .int 0, .null, .int 0, .int 0, .int 0, .ref (u.getD 0 0), .int 0, .int (-1), .int 0, .ref (u.getD 1 0), .int 0]))) n [aI g 32 (fun _ => 0), aI g 1920 (fun _ => 0)]) t) (fun q => base ≤ q)) 2 1952 (fun q => base ≤ q) := by
  refine Met.ofW (cc := cX0_init) (maxL := 1) (ret := none) (by decide) rfl ?_
  intro p e s m args below meth c s₁ B hml hv
  obtain ⟨rfl, hPW⟩ := hv
  obtain ⟨hbs, hJ, hP, hK, hE⟩ := id hPW
  have hx := B.exec
  have hb := B.bytes
  have hr := B.returns
  have hts := atoms_spec (ws := wsX0_init) B.pre
  have hown : s.vm.findClass RX0 = some m.cls := findClass_of_methodNamed B.named
  have hlocks := B.notSynchronized
  have hin : meth.name = "<init>" := (name_of_methodNamed B.named B.method).1
  have hA : ∀ q : Nat, s.heap.size ≤ q → base ≤ q := fun q h => Nat.le_trans hbs h
  have hS : va_S (fun q : Nat => base ≤ q) s.heap s.heap [] := va_S.rf
  have hl := lv_entry ([.ref a]) (n := 1) (Nat.le_of_ble_eq_true rfl)
  rw [lg_entry_eq]
  generalize (lg_sl ([.ref a]) ++ List.replicate (1 - (lg_sl ([.ref a])).length) Slot.unset).toArray = ls at hl ⊢
  have hl : lv_has ls 1 [(0, .ref a)] := hl
  have iX0 : ∀ w ∈ wsX00, w ∈ wsX0_init := by decide +kernel
  have hP : va_P g.1 vwCl (wl (n + 0) (ups L n []) (ups (va_up w k0 (.inr (2, [.int 0, .int 0, .null, .int 0, .int 0, .int 0, .null, .int 0, .int 0, .int 0, .null, .int 0]))) n [])) s.heap := P_cast rfl (ups_nil _ _).symm (ups_nil _ _).symm hP
  have hJ : wj (n + 0) (ups L n []) (fun q : Nat => base ≤ q) := J_cast rfl (ups_nil _ _).symm hJ
  refine lv_aload_n hx hb dX0_init_0 rfl (lv_at hl 0 rfl) ?_
  refine W.objInit hx hb hown (hts (.methodLink RX0 3 objectInit) (by decide +kernel)) (hts (.instanceMethod objectInit) (by decide +kernel)) (hts (.code objectInit ⟨#[0xb1]⟩ 1 none) (by decide +kernel)) rfl (by rw [hml]; exact hl.1) rfl dX0_init_1 (Nat.le_of_ble_eq_true rfl) (Nat.le_of_ble_eq_true rfl) ?_
  refine W.eq (g2 := F0 m 4 ls []) rfl ?_
  refine lv_aload_n hx hb dX0_init_4 rfl (lv_at hl 0 rfl) ?_
  refine lv_iconst (v := 0) hx hb dX0_init_5 (by decide) ?_
  refine wx_putA (D := g.1) (cl := vwCl) (ci := 2) (v := .int 0) (ty := .int) (a := a) (w' := ups (va_up w k0 (.inr (2, [.int 0, .int 0, .null, .int 0, .int 0, .int 0, .null, .int 0, .int 0, .int 0, .null, .int 0]))) n []) (C := RX0) (T := TX0) (N := 12) hx hb hts iX0 tyX0 tyX0_ok nmX0 hown hK hP hJ hS k0 (by omega) ((ups_lt (by omega)).trans (va_up_self _ _ _)) rfl 0 (by decide) (hts (.fieldLink RX0 9 "FerroDesk$Board" "district" "I") (by decide +kernel)) (fun _ h9 => h9) rfl (by decide +kernel) rfl rfl (Nat.le_of_ble_eq_true rfl) dX0_init_6 ((ups_lt (by omega)).trans ha) ((ups_in (by omega)).trans (by rw [up_up]; rfl)) (fun H locs hP hS => ?_)
  refine lv_aload_n hx hb dX0_init_9 rfl (lv_at hl 0 rfl) ?_
  refine lv_iconst (v := 0) hx hb dX0_init_10 (by decide) ?_
  refine wx_putA (D := g.1) (cl := vwCl) (ci := 2) (v := .int 0) (ty := .int) (a := a) (w' := ups (va_up w k0 (.inr (2, [.int 0, .int 0, .null, .int 0, .int 0, .int 0, .null, .int 0, .int 0, .int 0, .null, .int 0]))) n []) (C := RX0) (T := TX0) (N := 12) hx hb hts iX0 tyX0 tyX0_ok nmX0 hown hK hP hJ hS k0 (by omega) ((ups_lt (by omega)).trans (va_up_self _ _ _)) rfl 1 (by decide) (hts (.fieldLink RX0 15 "FerroDesk$Board" "charge" "I") (by decide +kernel)) (fun _ h9 => h9) rfl (by decide +kernel) rfl rfl (Nat.le_of_ble_eq_true rfl) dX0_init_11 ((ups_lt (by omega)).trans ha) ((ups_in (by omega)).trans (by rw [up_up]; rfl)) (fun H locs hP hS => ?_)
  refine lv_aload_n hx hb dX0_init_14 rfl (lv_at hl 0 rfl) ?_
  refine lv_null hx hb dX0_init_15 ?_
  refine wx_putA (D := g.1) (cl := vwCl) (ci := 2) (v := .null) (ty := .object "FerroDesk$Notice") (a := a) (w' := ups (va_up w k0 (.inr (2, [.int 0, .int 0, .null, .int 0, .int 0, .int 0, .null, .int 0, .int 0, .int 0, .null, .int 0]))) n []) (C := RX0) (T := TX0) (N := 12) hx hb hts iX0 tyX0 tyX0_ok nmX0 hown hK hP hJ hS k0 (by omega) ((ups_lt (by omega)).trans (va_up_self _ _ _)) rfl 2 (by decide) (hts (.fieldLink RX0 18 "FerroDesk$Board" "shown" "LFerroDesk$Notice;") (by decide +kernel)) (fun _ h9 => h9) rfl (by decide +kernel) rfl rfl (Nat.le_of_ble_eq_true rfl) dX0_init_16 ((ups_lt (by omega)).trans ha) ((ups_in (by omega)).trans (by rw [up_up]; rfl)) (fun H locs hP hS => ?_)
  refine lv_aload_n hx hb dX0_init_19 rfl (lv_at hl 0 rfl) ?_
  refine lv_iconst (v := 0) hx hb dX0_init_20 (by decide) ?_
  refine wx_putA (D := g.1) (cl := vwCl) (ci := 2) (v := .int 0) (ty := .int) (a := a) (w' := ups (va_up w k0 (.inr (2, [.int 0, .int 0, .null, .int 0, .int 0, .int 0, .null, .int 0, .int 0, .int 0, .null, .int 0]))) n []) (C := RX0) (T := TX0) (N := 12) hx hb hts iX0 tyX0 tyX0_ok nmX0 hown hK hP hJ hS k0 (by omega) ((ups_lt (by omega)).trans (va_up_self _ _ _)) rfl 3 (by decide) (hts (.fieldLink RX0 22 "FerroDesk$Board" "shiftedBy" "I") (by decide +kernel)) (fun _ h9 => h9) rfl (by decide +kernel) rfl rfl (Nat.le_of_ble_eq_true rfl) dX0_init_21 ((ups_lt (by omega)).trans ha) ((ups_in (by omega)).trans (by rw [up_up]; rfl)) (fun H locs hP hS => ?_)
  refine lv_aload_n hx hb dX0_init_24 rfl (lv_at hl 0 rfl) ?_
  refine lv_iconst (v := 0) hx hb dX0_init_25 (by decide) ?_
  refine wx_putA (D := g.1) (cl := vwCl) (ci := 2) (v := .int 0) (ty := .boolean) (a := a) (w' := ups (va_up w k0 (.inr (2, [.int 0, .int 0, .null, .int 0, .int 0, .int 0, .null, .int 0, .int 0, .int 0, .null, .int 0]))) n []) (C := RX0) (T := TX0) (N := 12) hx hb hts iX0 tyX0 tyX0_ok nmX0 hown hK hP hJ hS k0 (by omega) ((ups_lt (by omega)).trans (va_up_self _ _ _)) rfl 4 (by decide) (hts (.fieldLink RX0 25 "FerroDesk$Board" "asleep" "Z") (by decide +kernel)) (fun _ h9 => h9) rfl (by decide +kernel) rfl rfl (Nat.le_of_ble_eq_true rfl) dX0_init_26 ((ups_lt (by omega)).trans ha) ((ups_in (by omega)).trans (by rw [up_up]; rfl)) (fun H locs hP hS => ?_)
  refine lv_aload_n hx hb dX0_init_29 rfl (lv_at hl 0 rfl) ?_
  refine lv_iconst (v := 0) hx hb dX0_init_30 (by decide) ?_
  refine wx_putA (D := g.1) (cl := vwCl) (ci := 2) (v := .int 0) (ty := .int) (a := a) (w' := ups (va_up w k0 (.inr (2, [.int 0, .int 0, .null, .int 0, .int 0, .int 0, .null, .int 0, .int 0, .int 0, .null, .int 0]))) n []) (C := RX0) (T := TX0) (N := 12) hx hb hts iX0 tyX0 tyX0_ok nmX0 hown hK hP hJ hS k0 (by omega) ((ups_lt (by omega)).trans (va_up_self _ _ _)) rfl 5 (by decide) (hts (.fieldLink RX0 29 "FerroDesk$Board" "black" "I") (by decide +kernel)) (fun _ h9 => h9) rfl (by decide +kernel) rfl rfl (Nat.le_of_ble_eq_true rfl) dX0_init_31 ((ups_lt (by omega)).trans ha) ((ups_in (by omega)).trans (by rw [up_up]; rfl)) (fun H locs hP hS => ?_)
  refine lv_aload_n hx hb dX0_init_34 rfl (lv_at hl 0 rfl) ?_
  refine lv_bipush (v := 32) hx hb dX0_init_35 (by decide) ?_
  refine wx_newa (atype := .int) (a0 := (32, .inl (fun _ => 0))) (N' := 32) hx hb (hts (.arrayClass .int) (by decide +kernel)) rfl hK hP hJ hS hA (fun _ => rfl) (by decide) (by decide) (by decide) (Nat.le_of_ble_eq_true rfl) (Nat.le_of_ble_eq_true rfl) dX0_init_37 (k0 := 0) rfl (fun q1 H hP hJ hS => ?_)
  have hP : va_P g.1 vwCl (wl (n + 1) (ups L n [q1]) (ups (va_up w k0 (.inr (2, [.int 0, .int 0, .null, .int 0, .int 0, .int 0, .null, .int 0, .int 0, .int 0, .null, .int 0]))) n [aI g 32 (fun _ => 0)])) H := P_cast rfl (ups_push (As := [])) (ups_push (As := [])) hP
  have hJ : wj (n + 1) (ups L n [q1]) (fun q : Nat => base ≤ q) := J_cast rfl (ups_push (As := [])) hJ
  refine wx_putFA (D := g.1) (cl := vwCl) (ci := 2) (v := .ref q1) (ty := .array .int) (a := a) (w' := ups (va_up w k0 (.inr (2, [.int 0, .int 0, .null, .int 0, .int 0, .int 0, .ref q1, .int 0, .int 0, .int 0, .null, .int 0]))) n [aI g 32 (fun _ => 0)]) (C := RX0) (T := TX0) (N := 12) hx hb hts iX0 tyX0 tyX0_ok nmX0 hown hK hP hJ hS k0 (by omega) ((ups_lt (by omega)).trans (va_up_self _ _ _)) rfl 6 (by decide) (hts (.fieldLink RX0 32 "FerroDesk$Board" "wearByCell" "[I") (by decide +kernel)) (fun _ h9 => h9) rfl hin rfl (by decide +kernel) rfl rfl (Nat.le_of_ble_eq_true rfl) dX0_init_39 ((ups_lt (by omega)).trans ha) ((ups_in (by omega)).trans (by rw [up_up]; rfl)) (fun H locs hP hS => ?_)
  refine lv_aload_n hx hb dX0_init_42 rfl (lv_at hl 0 rfl) ?_
  refine lv_iconst (v := 0) hx hb dX0_init_43 (by decide) ?_
  refine wx_putA (D := g.1) (cl := vwCl) (ci := 2) (v := .int 0) (ty := .int) (a := a) (w' := ups (va_up w k0 (.inr (2, [.int 0, .int 0, .null, .int 0, .int 0, .int 0, .ref q1, .int 0, .int 0, .int 0, .null, .int 0]))) n [aI g 32 (fun _ => 0)]) (C := RX0) (T := TX0) (N := 12) hx hb hts iX0 tyX0 tyX0_ok nmX0 hown hK hP hJ hS k0 (by omega) ((ups_lt (by omega)).trans (va_up_self _ _ _)) rfl 7 (by decide) (hts (.fieldLink RX0 36 "FerroDesk$Board" "greatestWear" "I") (by decide +kernel)) (fun _ h9 => h9) rfl (by decide +kernel) rfl rfl (Nat.le_of_ble_eq_true rfl) dX0_init_44 ((ups_lt (by omega)).trans ha) ((ups_in (by omega)).trans (by rw [up_up]; rfl)) (fun H locs hP hS => ?_)
  refine lv_aload_n hx hb dX0_init_47 rfl (lv_at hl 0 rfl) ?_
  refine lv_iconst (v := (-1)) hx hb dX0_init_48 (by decide) ?_
  refine wx_putA (D := g.1) (cl := vwCl) (ci := 2) (v := .int (-1)) (ty := .int) (a := a) (w' := ups (va_up w k0 (.inr (2, [.int 0, .int 0, .null, .int 0, .int 0, .int 0, .ref q1, .int 0, .int (-1), .int 0, .null, .int 0]))) n [aI g 32 (fun _ => 0)]) (C := RX0) (T := TX0) (N := 12) hx hb hts iX0 tyX0 tyX0_ok nmX0 hown hK hP hJ hS k0 (by omega) ((ups_lt (by omega)).trans (va_up_self _ _ _)) rfl 8 (by decide) (hts (.fieldLink RX0 39 "FerroDesk$Board" "mostWorn" "I") (by decide +kernel)) (fun _ h9 => h9) rfl (by decide +kernel) rfl rfl (Nat.le_of_ble_eq_true rfl) dX0_init_49 ((ups_lt (by omega)).trans ha) ((ups_in (by omega)).trans (by rw [up_up]; rfl)) (fun H locs hP hS => ?_)
  refine lv_aload_n hx hb dX0_init_52 rfl (lv_at hl 0 rfl) ?_
  refine lv_iconst (v := 0) hx hb dX0_init_53 (by decide) ?_
  refine wx_putA (D := g.1) (cl := vwCl) (ci := 2) (v := .int 0) (ty := .int) (a := a) (w' := ups (va_up w k0 (.inr (2, [.int 0, .int 0, .null, .int 0, .int 0, .int 0, .ref q1, .int 0, .int (-1), .int 0, .null, .int 0]))) n [aI g 32 (fun _ => 0)]) (C := RX0) (T := TX0) (N := 12) hx hb hts iX0 tyX0 tyX0_ok nmX0 hown hK hP hJ hS k0 (by omega) ((ups_lt (by omega)).trans (va_up_self _ _ _)) rfl 9 (by decide) (hts (.fieldLink RX0 42 "FerroDesk$Board" "wornOut" "I") (by decide +kernel)) (fun _ h9 => h9) rfl (by decide +kernel) rfl rfl (Nat.le_of_ble_eq_true rfl) dX0_init_54 ((ups_lt (by omega)).trans ha) ((ups_in (by omega)).trans (by rw [up_up]; rfl)) (fun H locs hP hS => ?_)
  refine lv_aload_n hx hb dX0_init_57 rfl (lv_at hl 0 rfl) ?_
  refine lv_sipush (v := 1920) hx hb dX0_init_58 (by decide) ?_
  refine wx_newa (atype := .int) (a0 := (1920, .inl (fun _ => 0))) (N' := 1920) hx hb (hts (.arrayClass .int) (by decide +kernel)) rfl hK hP hJ hS hA (fun _ => rfl) (by decide) (by decide) (by decide) (Nat.le_of_ble_eq_true rfl) (Nat.le_of_ble_eq_true rfl) dX0_init_61 (k0 := 0) rfl (fun q2 H hP hJ hS => ?_)
  have hP : va_P g.1 vwCl (wl (n + 2) (ups L n [q1, q2]) (ups (va_up w k0 (.inr (2, [.int 0, .int 0, .null, .int 0, .int 0, .int 0, .ref q1, .int 0, .int (-1), .int 0, .null, .int 0]))) n [aI g 32 (fun _ => 0), aI g 1920 (fun _ => 0)])) H := P_cast rfl (ups_push (As := [q1])) (ups_push (As := [aI g 32 (fun _ => 0)])) hP
  have hJ : wj (n + 2) (ups L n [q1, q2]) (fun q : Nat => base ≤ q) := J_cast rfl (ups_push (As := [q1])) hJ
  refine wx_putFA (D := g.1) (cl := vwCl) (ci := 2) (v := .ref q2) (ty := .array .int) (a := a) (w' := ups (va_up w k0 (.inr (2, [.int 0, .int 0, .null, .int 0, .int 0, .int 0, .ref q1, .int 0, .int (-1), .int 0, .ref q2, .int 0]))) n [aI g 32 (fun _ => 0), aI g 1920 (fun _ => 0)]) (C := RX0) (T := TX0) (N := 12) hx hb hts iX0 tyX0 tyX0_ok nmX0 hown hK hP hJ hS k0 (by omega) ((ups_lt (by omega)).trans (va_up_self _ _ _)) rfl 10 (by decide) (hts (.fieldLink RX0 45 "FerroDesk$Board" "changed" "[I") (by decide +kernel)) (fun _ h9 => h9) rfl hin rfl (by decide +kernel) rfl rfl (Nat.le_of_ble_eq_true rfl) dX0_init_63 ((ups_lt (by omega)).trans ha) ((ups_in (by omega)).trans (by rw [up_up]; rfl)) (fun H locs hP hS => ?_)
  refine lv_aload_n hx hb dX0_init_66 rfl (lv_at hl 0 rfl) ?_
  refine lv_iconst (v := 0) hx hb dX0_init_67 (by decide) ?_
  refine wx_putA (D := g.1) (cl := vwCl) (ci := 2) (v := .int 0) (ty := .int) (a := a) (w' := ups (va_up w k0 (.inr (2, [.int 0, .int 0, .null, .int 0, .int 0, .int 0, .ref q1, .int 0, .int (-1), .int 0, .ref q2, .int 0]))) n [aI g 32 (fun _ => 0), aI g 1920 (fun _ => 0)]) (C := RX0) (T := TX0) (N := 12) hx hb hts iX0 tyX0 tyX0_ok nmX0 hown hK hP hJ hS k0 (by omega) ((ups_lt (by omega)).trans (va_up_self _ _ _)) rfl 11 (by decide) (hts (.fieldLink RX0 48 "FerroDesk$Board" "timesChanged" "I") (by decide +kernel)) (fun _ h9 => h9) rfl (by decide +kernel) rfl rfl (Nat.le_of_ble_eq_true rfl) dX0_init_68 ((ups_lt (by omega)).trans ha) ((ups_in (by omega)).trans (by rw [up_up]; rfl)) (fun H locs hP hS => ?_)
  exact W.vret hx hb hr (fun t ht hW => ⟨⟨[q1, q2], rfl, ⟨q1, q2, rfl⟩, hJ, PB.mk9 hP ht⟩, hS.F ht⟩) hS.2.2 dX0_init_71

set_option maxHeartbeats 8000000 in
set_option maxRecDepth 100000 in
theorem kc_X1_init (l : Launch) (g : gE) (base n : Nat) (L : Nat → Nat) (w : Nat → va_E) (k0 a : Nat) (hk : k0 < n) (ha : L k0 = a) (p0 : Int32) : Met l yX1_init wsX1_init ({ frames := 1, cells := 1, slots := 6, locals := 20 }) (va_Pc [.ref a, .int p0] (PW SS g base n L (va_up w k0 (.inr (3, [.int 0, .null, .int 0, .int 0, .int 0, .int 0, .int 0, .int 0, .int 0]))))) (va_Qv (fun (u : List Nat) => ∃ q1 : Nat, u = [q1]) (fun (u : List Nat) t => wj (n + 1) (ups L n u) (fun q : Nat => base ≤ q) ∧ PB g (n + 1) (ups L n u) (ups (va_up w k0 (.inr (3, [.int p0, .ref (u.getD 0 0), .int 0, .int 0, .int 0, .int 0, .int 0, .int 0, .int 0]))) n [aI g 6 (fun _ => 0)]) t) (fun q => base ≤ q)) 1 6 (fun q => base ≤ q) := by
  refine Met.ofW (cc := cX1_init) (maxL := 2) (ret := none) (by decide) rfl ?_
  intro p e s m args below meth c s₁ B hml hv
  obtain ⟨rfl, hPW⟩ := hv
  obtain ⟨hbs, hJ, hP, hK, hE⟩ := id hPW
  have hx := B.exec
  have hb := B.bytes
  have hr := B.returns
  have hts := atoms_spec (ws := wsX1_init) B.pre
  have hown : s.vm.findClass RX1 = some m.cls := findClass_of_methodNamed B.named
  have hlocks := B.notSynchronized
  have hin : meth.name = "<init>" := (name_of_methodNamed B.named B.method).1
  have hA : ∀ q : Nat, s.heap.size ≤ q → base ≤ q := fun q h => Nat.le_trans hbs h
  have hS : va_S (fun q : Nat => base ≤ q) s.heap s.heap [] := va_S.rf
  have hl := lv_entry ([.ref a, .int p0]) (n := 2) (Nat.le_of_ble_eq_true rfl)
  rw [lg_entry_eq]
  generalize (lg_sl ([.ref a, .int p0]) ++ List.replicate (2 - (lg_sl ([.ref a, .int p0])).length) Slot.unset).toArray = ls at hl ⊢
  have hl : lv_has ls 2 [(0, .ref a), (1, .int p0)] := hl
  have iX1 : ∀ w ∈ wsX10, w ∈ wsX1_init := by decide +kernel
  have hP : va_P g.1 vwCl (wl (n + 0) (ups L n []) (ups (va_up w k0 (.inr (3, [.int 0, .null, .int 0, .int 0, .int 0, .int 0, .int 0, .int 0, .int 0]))) n [])) s.heap := P_cast rfl (ups_nil _ _).symm (ups_nil _ _).symm hP
  have hJ : wj (n + 0) (ups L n []) (fun q : Nat => base ≤ q) := J_cast rfl (ups_nil _ _).symm hJ
  refine lv_aload_n hx hb dX1_init_0 rfl (lv_at hl 0 rfl) ?_
  refine W.objInit hx hb hown (hts (.methodLink RX1 3 objectInit) (by decide +kernel)) (hts (.instanceMethod objectInit) (by decide +kernel)) (hts (.code objectInit ⟨#[0xb1]⟩ 1 none) (by decide +kernel)) rfl (by rw [hml]; exact hl.1) rfl dX1_init_1 (Nat.le_of_ble_eq_true rfl) (Nat.le_of_ble_eq_true rfl) ?_
  refine W.eq (g2 := F0 m 4 ls []) rfl ?_
  refine lv_aload_n hx hb dX1_init_4 rfl (lv_at hl 0 rfl) ?_
  refine lv_bipush (v := 6) hx hb dX1_init_5 (by decide) ?_
  refine wx_newa (atype := .int) (a0 := (6, .inl (fun _ => 0))) (N' := 6) hx hb (hts (.arrayClass .int) (by decide +kernel)) rfl hK hP hJ hS hA (fun _ => rfl) (by decide) (by decide) (by decide) (Nat.le_of_ble_eq_true rfl) (Nat.le_of_ble_eq_true rfl) dX1_init_7 (k0 := 0) rfl (fun q1 H hP hJ hS => ?_)
  have hP : va_P g.1 vwCl (wl (n + 1) (ups L n [q1]) (ups (va_up w k0 (.inr (3, [.int 0, .null, .int 0, .int 0, .int 0, .int 0, .int 0, .int 0, .int 0]))) n [aI g 6 (fun _ => 0)])) H := P_cast rfl (ups_push (As := [])) (ups_push (As := [])) hP
  have hJ : wj (n + 1) (ups L n [q1]) (fun q : Nat => base ≤ q) := J_cast rfl (ups_push (As := [])) hJ
  refine wx_putFA (D := g.1) (cl := vwCl) (ci := 3) (v := .ref q1) (ty := .array .int) (a := a) (w' := ups (va_up w k0 (.inr (3, [.int 0, .ref q1, .int 0, .int 0, .int 0, .int 0, .int 0, .int 0, .int 0]))) n [aI g 6 (fun _ => 0)]) (C := RX1) (T := TX1) (N := 9) hx hb hts iX1 tyX1 tyX1_ok nmX1 hown hK hP hJ hS k0 (by omega) ((ups_lt (by omega)).trans (va_up_self _ _ _)) rfl 1 (by decide) (hts (.fieldLink RX1 9 "FerroDesk$Notice" "readersAt" "[I") (by decide +kernel)) (fun _ h9 => h9) rfl hin rfl (by decide +kernel) rfl rfl (Nat.le_of_ble_eq_true rfl) dX1_init_9 ((ups_lt (by omega)).trans ha) ((ups_in (by omega)).trans (by rw [up_up]; rfl)) (fun H locs hP hS => ?_)
  refine lv_aload_n hx hb dX1_init_12 rfl (lv_at hl 0 rfl) ?_
  refine lv_iconst (v := 0) hx hb dX1_init_13 (by decide) ?_
  refine wx_putA (D := g.1) (cl := vwCl) (ci := 3) (v := .int 0) (ty := .int) (a := a) (w' := ups (va_up w k0 (.inr (3, [.int 0, .ref q1, .int 0, .int 0, .int 0, .int 0, .int 0, .int 0, .int 0]))) n [aI g 6 (fun _ => 0)]) (C := RX1) (T := TX1) (N := 9) hx hb hts iX1 tyX1 tyX1_ok nmX1 hown hK hP hJ hS k0 (by omega) ((ups_lt (by omega)).trans (va_up_self _ _ _)) rfl 2 (by decide) (hts (.fieldLink RX1 15 "FerroDesk$Notice" "rank" "I") (by decide +kernel)) (fun _ h9 => h9) rfl (by decide +kernel) rfl rfl (Nat.le_of_ble_eq_true rfl) dX1_init_14 ((ups_lt (by omega)).trans ha) ((ups_in (by omega)).trans (by rw [up_up]; rfl)) (fun H locs hP hS => ?_)
  refine lv_aload_n hx hb dX1_init_17 rfl (lv_at hl 0 rfl) ?_
  refine lv_iconst (v := 0) hx hb dX1_init_18 (by decide) ?_
  refine wx_putA (D := g.1) (cl := vwCl) (ci := 3) (v := .int 0) (ty := .int) (a := a) (w' := ups (va_up w k0 (.inr (3, [.int 0, .ref q1, .int 0, .int 0, .int 0, .int 0, .int 0, .int 0, .int 0]))) n [aI g 6 (fun _ => 0)]) (C := RX1) (T := TX1) (N := 9) hx hb hts iX1 tyX1 tyX1_ok nmX1 hown hK hP hJ hS k0 (by omega) ((ups_lt (by omega)).trans (va_up_self _ _ _)) rfl 3 (by decide) (hts (.fieldLink RX1 19 "FerroDesk$Notice" "picture" "I") (by decide +kernel)) (fun _ h9 => h9) rfl (by decide +kernel) rfl rfl (Nat.le_of_ble_eq_true rfl) dX1_init_19 ((ups_lt (by omega)).trans ha) ((ups_in (by omega)).trans (by rw [up_up]; rfl)) (fun H locs hP hS => ?_)
  refine lv_aload_n hx hb dX1_init_22 rfl (lv_at hl 0 rfl) ?_
  refine lv_iconst (v := 0) hx hb dX1_init_23 (by decide) ?_
  refine wx_putA (D := g.1) (cl := vwCl) (ci := 3) (v := .int 0) (ty := .int) (a := a) (w' := ups (va_up w k0 (.inr (3, [.int 0, .ref q1, .int 0, .int 0, .int 0, .int 0, .int 0, .int 0, .int 0]))) n [aI g 6 (fun _ => 0)]) (C := RX1) (T := TX1) (N := 9) hx hb hts iX1 tyX1 tyX1_ok nmX1 hown hK hP hJ hS k0 (by omega) ((ups_lt (by omega)).trans (va_up_self _ _ _)) rfl 4 (by decide) (hts (.fieldLink RX1 22 "FerroDesk$Notice" "from" "I") (by decide +kernel)) (fun _ h9 => h9) rfl (by decide +kernel) rfl rfl (Nat.le_of_ble_eq_true rfl) dX1_init_24 ((ups_lt (by omega)).trans ha) ((ups_in (by omega)).trans (by rw [up_up]; rfl)) (fun H locs hP hS => ?_)
  refine lv_aload_n hx hb dX1_init_27 rfl (lv_at hl 0 rfl) ?_
  refine lv_iconst (v := 0) hx hb dX1_init_28 (by decide) ?_
  refine wx_putA (D := g.1) (cl := vwCl) (ci := 3) (v := .int 0) (ty := .int) (a := a) (w' := ups (va_up w k0 (.inr (3, [.int 0, .ref q1, .int 0, .int 0, .int 0, .int 0, .int 0, .int 0, .int 0]))) n [aI g 6 (fun _ => 0)]) (C := RX1) (T := TX1) (N := 9) hx hb hts iX1 tyX1 tyX1_ok nmX1 hown hK hP hJ hS k0 (by omega) ((ups_lt (by omega)).trans (va_up_self _ _ _)) rfl 5 (by decide) (hts (.fieldLink RX1 25 "FerroDesk$Notice" "till" "I") (by decide +kernel)) (fun _ h9 => h9) rfl (by decide +kernel) rfl rfl (Nat.le_of_ble_eq_true rfl) dX1_init_29 ((ups_lt (by omega)).trans ha) ((ups_in (by omega)).trans (by rw [up_up]; rfl)) (fun H locs hP hS => ?_)
  refine lv_aload_n hx hb dX1_init_32 rfl (lv_at hl 0 rfl) ?_
  refine lv_iconst (v := 0) hx hb dX1_init_33 (by decide) ?_
  refine wx_putA (D := g.1) (cl := vwCl) (ci := 3) (v := .int 0) (ty := .boolean) (a := a) (w' := ups (va_up w k0 (.inr (3, [.int 0, .ref q1, .int 0, .int 0, .int 0, .int 0, .int 0, .int 0, .int 0]))) n [aI g 6 (fun _ => 0)]) (C := RX1) (T := TX1) (N := 9) hx hb hts iX1 tyX1 tyX1_ok nmX1 hown hK hP hJ hS k0 (by omega) ((ups_lt (by omega)).trans (va_up_self _ _ _)) rfl 6 (by decide) (hts (.fieldLink RX1 28 "FerroDesk$Notice" "mended" "Z") (by decide +kernel)) (fun _ h9 => h9) rfl (by decide +kernel) rfl rfl (Nat.le_of_ble_eq_true rfl) dX1_init_34 ((ups_lt (by omega)).trans ha) ((ups_in (by omega)).trans (by rw [up_up]; rfl)) (fun H locs hP hS => ?_)
  refine lv_aload_n hx hb dX1_init_37 rfl (lv_at hl 0 rfl) ?_
  refine lv_iconst (v := 0) hx hb dX1_init_38 (by decide) ?_
  refine wx_putA (D := g.1) (cl := vwCl) (ci := 3) (v := .int 0) (ty := .boolean) (a := a) (w' := ups (va_up w k0 (.inr (3, [.int 0, .ref q1, .int 0, .int 0, .int 0, .int 0, .int 0, .int 0, .int 0]))) n [aI g 6 (fun _ => 0)]) (C := RX1) (T := TX1) (N := 9) hx hb hts iX1 tyX1 tyX1_ok nmX1 hown hK hP hJ hS k0 (by omega) ((ups_lt (by omega)).trans (va_up_self _ _ _)) rfl 7 (by decide) (hts (.fieldLink RX1 32 "FerroDesk$Notice" "takenBack" "Z") (by decide +kernel)) (fun _ h9 => h9) rfl (by decide +kernel) rfl rfl (Nat.le_of_ble_eq_true rfl) dX1_init_39 ((ups_lt (by omega)).trans ha) ((ups_in (by omega)).trans (by rw [up_up]; rfl)) (fun H locs hP hS => ?_)
  refine lv_aload_n hx hb dX1_init_42 rfl (lv_at hl 0 rfl) ?_
  refine lv_iconst (v := 0) hx hb dX1_init_43 (by decide) ?_
  refine wx_putA (D := g.1) (cl := vwCl) (ci := 3) (v := .int 0) (ty := .int) (a := a) (w' := ups (va_up w k0 (.inr (3, [.int 0, .ref q1, .int 0, .int 0, .int 0, .int 0, .int 0, .int 0, .int 0]))) n [aI g 6 (fun _ => 0)]) (C := RX1) (T := TX1) (N := 9) hx hb hts iX1 tyX1 tyX1_ok nmX1 hown hK hP hJ hS k0 (by omega) ((ups_lt (by omega)).trans (va_up_self _ _ _)) rfl 8 (by decide) (hts (.fieldLink RX1 35 "FerroDesk$Notice" "districts" "I") (by decide +kernel)) (fun _ h9 => h9) rfl (by decide +kernel) rfl rfl (Nat.le_of_ble_eq_true rfl) dX1_init_44 ((ups_lt (by omega)).trans ha) ((ups_in (by omega)).trans (by rw [up_up]; rfl)) (fun H locs hP hS => ?_)
  refine lv_aload_n hx hb dX1_init_47 rfl (lv_at hl 0 rfl) ?_
  refine lv_iload_n hx hb dX1_init_48 rfl (lv_at hl 1 rfl) ?_
  refine wx_putFA (D := g.1) (cl := vwCl) (ci := 3) (v := .int p0) (ty := .int) (a := a) (w' := ups (va_up w k0 (.inr (3, [.int p0, .ref q1, .int 0, .int 0, .int 0, .int 0, .int 0, .int 0, .int 0]))) n [aI g 6 (fun _ => 0)]) (C := RX1) (T := TX1) (N := 9) hx hb hts iX1 tyX1 tyX1_ok nmX1 hown hK hP hJ hS k0 (by omega) ((ups_lt (by omega)).trans (va_up_self _ _ _)) rfl 0 (by decide) (hts (.fieldLink RX1 38 "FerroDesk$Notice" "number" "I") (by decide +kernel)) (fun _ h9 => h9) rfl hin rfl (by decide +kernel) rfl rfl (Nat.le_of_ble_eq_true rfl) dX1_init_49 ((ups_lt (by omega)).trans ha) ((ups_in (by omega)).trans (by rw [up_up]; rfl)) (fun H locs hP hS => ?_)
  exact W.vret hx hb hr (fun t ht hW => ⟨⟨[q1], rfl, ⟨q1, rfl⟩, hJ, PB.mk9 hP ht⟩, hS.F ht⟩) hS.2.2 dX1_init_52

set_option maxHeartbeats 8000000 in
set_option maxRecDepth 100000 in
theorem kc_X2_init (l : Launch) (g : gE) (base n : Nat) (L : Nat → Nat) (w : Nat → va_E) (k0 a : Nat) (hk : k0 < n) (ha : L k0 = a) : Met l yX2_init wsX2_init ({ frames := 1, cells := 3, slots := 1536, locals := 20 }) (va_Pc [.ref a] (PW SS g base n L (va_up w k0 (.inr (4, [.null, .null, .null, .int 0]))))) (va_Qv (fun (u : List Nat) => ∃ q1 q2 q3 : Nat, u = [q1, q2, q3]) (fun (u : List Nat) t => wj (n + 3) (ups L n u) (fun q : Nat => base ≤ q) ∧ PB g (n + 3) (ups L n u) (ups (va_up w k0 (.inr (4, [.ref (u.getD 0 0), .ref (u.getD 1 0), .ref (u.getD 2 0), .int 0]))) n [aI g 512 (fun _ => 0), aI g 512 (fun _ => 0), aI g 512 (fun _ => 0)]) t) (fun q => base ≤ q)) 3 1536 (fun q => base ≤ q) := by
  refine Met.ofW (cc := cX2_init) (maxL := 1) (ret := none) (by decide) rfl ?_
  intro p e s m args below meth c s₁ B hml hv
  obtain ⟨rfl, hPW⟩ := hv
  obtain ⟨hbs, hJ, hP, hK, hE⟩ := id hPW
  have hx := B.exec
  have hb := B.bytes
  have hr := B.returns
  have hts := atoms_spec (ws := wsX2_init) B.pre
  have hown : s.vm.findClass RX2 = some m.cls := findClass_of_methodNamed B.named
  have hlocks := B.notSynchronized
  have hin : meth.name = "<init>" := (name_of_methodNamed B.named B.method).1
  have hA : ∀ q : Nat, s.heap.size ≤ q → base ≤ q := fun q h => Nat.le_trans hbs h
  have hS : va_S (fun q : Nat => base ≤ q) s.heap s.heap [] := va_S.rf
  have hl := lv_entry ([.ref a]) (n := 1) (Nat.le_of_ble_eq_true rfl)
  rw [lg_entry_eq]
  generalize (lg_sl ([.ref a]) ++ List.replicate (1 - (lg_sl ([.ref a])).length) Slot.unset).toArray = ls at hl ⊢
  have hl : lv_has ls 1 [(0, .ref a)] := hl
  have iX2 : ∀ w ∈ wsX20, w ∈ wsX2_init := by decide +kernel
  have hP : va_P g.1 vwCl (wl (n + 0) (ups L n []) (ups (va_up w k0 (.inr (4, [.null, .null, .null, .int 0]))) n [])) s.heap := P_cast rfl (ups_nil _ _).symm (ups_nil _ _).symm hP
  have hJ : wj (n + 0) (ups L n []) (fun q : Nat => base ≤ q) := J_cast rfl (ups_nil _ _).symm hJ
  refine lv_aload_n hx hb dX2_init_0 rfl (lv_at hl 0 rfl) ?_
  refine W.objInit hx hb hown (hts (.methodLink RX2 3 objectInit) (by decide +kernel)) (hts (.instanceMethod objectInit) (by decide +kernel)) (hts (.code objectInit ⟨#[0xb1]⟩ 1 none) (by decide +kernel)) rfl (by rw [hml]; exact hl.1) rfl dX2_init_1 (Nat.le_of_ble_eq_true rfl) (Nat.le_of_ble_eq_true rfl) ?_
  refine W.eq (g2 := F0 m 4 ls []) rfl ?_
  refine lv_aload_n hx hb dX2_init_4 rfl (lv_at hl 0 rfl) ?_
  refine lv_sipush (v := 512) hx hb dX2_init_5 (by decide) ?_
  refine wx_newa (atype := .int) (a0 := (512, .inl (fun _ => 0))) (N' := 512) hx hb (hts (.arrayClass .int) (by decide +kernel)) rfl hK hP hJ hS hA (fun _ => rfl) (by decide) (by decide) (by decide) (Nat.le_of_ble_eq_true rfl) (Nat.le_of_ble_eq_true rfl) dX2_init_8 (k0 := 0) rfl (fun q1 H hP hJ hS => ?_)
  have hP : va_P g.1 vwCl (wl (n + 1) (ups L n [q1]) (ups (va_up w k0 (.inr (4, [.null, .null, .null, .int 0]))) n [aI g 512 (fun _ => 0)])) H := P_cast rfl (ups_push (As := [])) (ups_push (As := [])) hP
  have hJ : wj (n + 1) (ups L n [q1]) (fun q : Nat => base ≤ q) := J_cast rfl (ups_push (As := [])) hJ
  refine wx_putFA (D := g.1) (cl := vwCl) (ci := 4) (v := .ref q1) (ty := .array .int) (a := a) (w' := ups (va_up w k0 (.inr (4, [.ref q1, .null, .null, .int 0]))) n [aI g 512 (fun _ => 0)]) (C := RX2) (T := TX2) (N := 4) hx hb hts iX2 tyX2 tyX2_ok nmX2 hown hK hP hJ hS k0 (by omega) ((ups_lt (by omega)).trans (va_up_self _ _ _)) rfl 0 (by decide) (hts (.fieldLink RX2 9 "FerroDesk$Readings" "noticeOf" "[I") (by decide +kernel)) (fun _ h9 => h9) rfl hin rfl (by decide +kernel) rfl rfl (Nat.le_of_ble_eq_true rfl) dX2_init_10 ((ups_lt (by omega)).trans ha) ((ups_in (by omega)).trans (by rw [up_up]; rfl)) (fun H locs hP hS => ?_)
  refine lv_aload_n hx hb dX2_init_13 rfl (lv_at hl 0 rfl) ?_
  refine lv_sipush (v := 512) hx hb dX2_init_14 (by decide) ?_
  refine wx_newa (atype := .int) (a0 := (512, .inl (fun _ => 0))) (N' := 512) hx hb (hts (.arrayClass .int) (by decide +kernel)) rfl hK hP hJ hS hA (fun _ => rfl) (by decide) (by decide) (by decide) (Nat.le_of_ble_eq_true rfl) (Nat.le_of_ble_eq_true rfl) dX2_init_17 (k0 := 0) rfl (fun q2 H hP hJ hS => ?_)
  have hP : va_P g.1 vwCl (wl (n + 2) (ups L n [q1, q2]) (ups (va_up w k0 (.inr (4, [.ref q1, .null, .null, .int 0]))) n [aI g 512 (fun _ => 0), aI g 512 (fun _ => 0)])) H := P_cast rfl (ups_push (As := [q1])) (ups_push (As := [aI g 512 (fun _ => 0)])) hP
  have hJ : wj (n + 2) (ups L n [q1, q2]) (fun q : Nat => base ≤ q) := J_cast rfl (ups_push (As := [q1])) hJ
  refine wx_putFA (D := g.1) (cl := vwCl) (ci := 4) (v := .ref q2) (ty := .array .int) (a := a) (w' := ups (va_up w k0 (.inr (4, [.ref q1, .ref q2, .null, .int 0]))) n [aI g 512 (fun _ => 0), aI g 512 (fun _ => 0)]) (C := RX2) (T := TX2) (N := 4) hx hb hts iX2 tyX2 tyX2_ok nmX2 hown hK hP hJ hS k0 (by omega) ((ups_lt (by omega)).trans (va_up_self _ _ _)) rfl 1 (by decide) (hts (.fieldLink RX2 15 "FerroDesk$Readings" "hourOf" "[I") (by decide +kernel)) (fun _ h9 => h9) rfl hin rfl (by decide +kernel) rfl rfl (Nat.le_of_ble_eq_true rfl) dX2_init_19 ((ups_lt (by omega)).trans ha) ((ups_in (by omega)).trans (by rw [up_up]; rfl)) (fun H locs hP hS => ?_)
  refine lv_aload_n hx hb dX2_init_22 rfl (lv_at hl 0 rfl) ?_
  refine lv_sipush (v := 512) hx hb dX2_init_23 (by decide) ?_
  refine wx_newa (atype := .int) (a0 := (512, .inl (fun _ => 0))) (N' := 512) hx hb (hts (.arrayClass .int) (by decide +kernel)) rfl hK hP hJ hS hA (fun _ => rfl) (by decide) (by decide) (by decide) (Nat.le_of_ble_eq_true rfl) (Nat.le_of_ble_eq_true rfl) dX2_init_26 (k0 := 0) rfl (fun q3 H hP hJ hS => ?_)
  have hP : va_P g.1 vwCl (wl (n + 3) (ups L n [q1, q2, q3]) (ups (va_up w k0 (.inr (4, [.ref q1, .ref q2, .null, .int 0]))) n [aI g 512 (fun _ => 0), aI g 512 (fun _ => 0), aI g 512 (fun _ => 0)])) H := P_cast rfl (ups_push (As := [q1, q2])) (ups_push (As := [aI g 512 (fun _ => 0), aI g 512 (fun _ => 0)])) hP
  have hJ : wj (n + 3) (ups L n [q1, q2, q3]) (fun q : Nat => base ≤ q) := J_cast rfl (ups_push (As := [q1, q2])) hJ
  refine wx_putFA (D := g.1) (cl := vwCl) (ci := 4) (v := .ref q3) (ty := .array .int) (a := a) (w' := ups (va_up w k0 (.inr (4, [.ref q1, .ref q2, .ref q3, .int 0]))) n [aI g 512 (fun _ => 0), aI g 512 (fun _ => 0), aI g 512 (fun _ => 0)]) (C := RX2) (T := TX2) (N := 4) hx hb hts iX2 tyX2 tyX2_ok nmX2 hown hK hP hJ hS k0 (by omega) ((ups_lt (by omega)).trans (va_up_self _ _ _)) rfl 2 (by decide) (hts (.fieldLink RX2 18 "FerroDesk$Readings" "people" "[I") (by decide +kernel)) (fun _ h9 => h9) rfl hin rfl (by decide +kernel) rfl rfl (Nat.le_of_ble_eq_true rfl) dX2_init_28 ((ups_lt (by omega)).trans ha) ((ups_in (by omega)).trans (by rw [up_up]; rfl)) (fun H locs hP hS => ?_)
  refine lv_aload_n hx hb dX2_init_31 rfl (lv_at hl 0 rfl) ?_
  refine lv_iconst (v := 0) hx hb dX2_init_32 (by decide) ?_
  refine wx_putA (D := g.1) (cl := vwCl) (ci := 4) (v := .int 0) (ty := .int) (a := a) (w' := ups (va_up w k0 (.inr (4, [.ref q1, .ref q2, .ref q3, .int 0]))) n [aI g 512 (fun _ => 0), aI g 512 (fun _ => 0), aI g 512 (fun _ => 0)]) (C := RX2) (T := TX2) (N := 4) hx hb hts iX2 tyX2 tyX2_ok nmX2 hown hK hP hJ hS k0 (by omega) ((ups_lt (by omega)).trans (va_up_self _ _ _)) rfl 3 (by decide) (hts (.fieldLink RX2 21 "FerroDesk$Readings" "count" "I") (by decide +kernel)) (fun _ h9 => h9) rfl (by decide +kernel) rfl rfl (Nat.le_of_ble_eq_true rfl) dX2_init_33 ((ups_lt (by omega)).trans ha) ((ups_in (by omega)).trans (by rw [up_up]; rfl)) (fun H locs hP hS => ?_)
  exact W.vret hx hb hr (fun t ht hW => ⟨⟨[q1, q2, q3], rfl, ⟨q1, q2, q3, rfl⟩, hJ, PB.mk9 hP ht⟩, hS.F ht⟩) hS.2.2 dX2_init_36

