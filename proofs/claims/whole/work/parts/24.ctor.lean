set_option maxHeartbeats 1000000 in
set_option maxRecDepth 100000 in
theorem kX0_init (l : Launch) (dC : Nat → ClassId) (dI : Nat → Nat → Nat) (q : ClassId × ClassId × ClassId × ClassId) (ad : Nat → Nat) (en : Nat → va_E) (sz : Nat) (b : Nat) (h0 : en b = .inr (1, [.null, .null, .null, .null, .int 0])) :
    Met l yX0_init wsX0_init ({ frames := 1, cells := 4, slots := 44, locals := 12 }) (wPc (dC, dI) vwCl (wT q) ad en (b + 1) sz [.ref (ad b)]) (va_Qv (fun u => HoldAt q u.1 u.2 b A0 ∧ (∀ j, j < b + 1 → u.1 j = ad j) ∧ ∀ j, j < b → u.2 j = en j) (wG (dC, dI) vwCl (wT q) (b + 5) (wA ad (b + 1) sz)) (wA ad (b + 1) sz)) 4 44 (wA ad (b + 1) sz) := by
  refine Met.ofW (cc := cX0_init) (maxL := 1) (ret := none) (by decide) rfl ?_
  intro p e s m args below meth c s₁ B hml hv
  obtain ⟨rfl, hsz, hP, hK, hD0, hE0⟩ := hv
  have hx := B.exec
  have hb := B.bytes
  have hr := B.returns
  have hts := atoms_spec (ws := wsX0_init) B.pre
  have hown : s.vm.findClass RX0 = some m.cls := findClass_of_methodNamed B.named
  have hlocks := B.notSynchronized
  have hin : meth.name = "<init>" := (name_of_methodNamed B.named B.method).1
  have iRX0 : ∀ w ∈ u_ws RX0 TX0 5, w ∈ wsX0_init := by decide +kernel
  subst hsz
  have hw := wk_of hP hK hD0 hE0
  generalize wA ad (b + 1) s.heap.size = AA at hw ⊢
  have hl := lv_entry ([.ref (ad b)]) (n := 1) (Nat.le_of_ble_eq_true rfl)
  rw [lg_entry_eq]
  generalize (lg_sl ([.ref (ad b)]) ++ List.replicate (1 - (lg_sl ([.ref (ad b)])).length) Slot.unset).toArray = ls at hl ⊢
  have hl : lv_has ls 1 [(0, .ref (ad b))] := hl
  refine lv_aload_n hx hb dX0_init_0 rfl (lv_at hl 0 rfl) ?_
  refine W.objInit hx hb hown (hts (.methodLink RX0 3 objectInit) (by decide +kernel)) (hts (.instanceMethod objectInit) (by decide +kernel)) (hts _ (List.mem_cons_of_mem _ (List.mem_append_left _ (List.mem_of_getElem? (i := 2) rfl)))) rfl (by rw [hml]; exact hl.1) rfl dX0_init_1 (Nat.le_of_ble_eq_true rfl) (Nat.le_of_ble_eq_true rfl) ?_
  refine W.eq (g2 := F0 m 4 ls []) rfl ?_
  refine lv_aload_n hx hb dX0_init_4 rfl (lv_at hl 0 rfl) ?_
  refine lv_bipush (v := 8) hx hb dX0_init_5 (by decide) ?_
  refine wr_newa (atype := .int) (ty := .int) (i := 8) (N' := 8) (a0 := (8, .inl (fun _ => 0))) hx hb (hts (.arrayClass .int) (by decide +kernel)) rfl hw 0 rfl (fun C h => by cases h) (fun _ => rfl) (by decide) (by decide) (Nat.le_of_ble_eq_true rfl) (Nat.le_of_ble_eq_true rfl) (Nat.le_of_ble_eq_true rfl) dX0_init_7 (fun ad1 en2 H hg3 hE4 hw => ?_)
  obtain ⟨q5, hq5⟩ : ∃ z : Nat, z = ad1 (b + 1) := ⟨_, rfl⟩
  rw [← hq5]
  have he6 : en2 b = .inr (1, [.null, .null, .null, .null, .int 0]) := w_ne hE4 (by omega) h0
  have ha7 : ad b = ad1 b := ((Eq.refl (ad b))).trans (hg3 b (by omega)).symm
  have he8 : en2 (b + 1) = .inl (q.1, 8, .inl ((fun _ => 0))) := w_self hE4
  refine wr_putFA (ci := 1) (v := .ref q5) (ty := .array .int) (C := RX0) (T := TX0) (N := 5) hx hb hts iRX0 tyX0 tyX0_ok nmX0 hown hw b (by omega) ha7 he6 rfl 0 (by decide) (hts (.fieldLink RX0 9 "LibraryDesk$Holdings" "made" "[I") (by decide +kernel)) (fun _ h9 => h9) rfl hin rfl (by decide +kernel) rfl rfl (Nat.le_of_ble_eq_true rfl) dX0_init_9 (fun en10 H locs hE9 hw => ?_)
  have he11 : en10 b = .inr (1, [.ref q5, .null, .null, .null, .int 0]) := w_self hE9
  have he12 : en10 (b + 1) = .inl (q.1, 8, .inl ((fun _ => 0))) := w_ne hE9 (by omega) he8
  refine lv_aload_n hx hb dX0_init_12 rfl (lv_at hl 0 rfl) ?_
  refine lv_bipush (v := 8) hx hb dX0_init_13 (by decide) ?_
  refine wr_newa (atype := .long) (ty := .long) (i := 8) (N' := 8) (a0 := (8, .inr (.inl (fun _ => 0)))) hx hb (hts (.arrayClass .long) (by decide +kernel)) rfl hw 1 rfl (fun C h => by cases h) (fun _ => rfl) (by decide) (by decide) (Nat.le_of_ble_eq_true rfl) (Nat.le_of_ble_eq_true rfl) (Nat.le_of_ble_eq_true rfl) dX0_init_15 (fun ad13 en14 H hg15 hE16 hw => ?_)
  obtain ⟨q17, hq17⟩ : ∃ z : Nat, z = ad13 (b + 2) := ⟨_, rfl⟩
  rw [← hq17]
  have he18 : en14 b = .inr (1, [.ref q5, .null, .null, .null, .int 0]) := w_ne hE16 (by omega) he11
  have ha19 : ad b = ad13 b := (ha7).trans (hg15 b (by omega)).symm
  have he20 : en14 (b + 1) = .inl (q.1, 8, .inl ((fun _ => 0))) := w_ne hE16 (by omega) he12
  have ha21 : q5 = ad13 (b + 1) := (hq5).trans (hg15 (b + 1) (by omega)).symm
  have he22 : en14 (b + 2) = .inl (q.2.1, 8, .inr (.inl ((fun _ => 0)))) := w_self hE16
  refine wr_putFA (ci := 1) (v := .ref q17) (ty := .array .long) (C := RX0) (T := TX0) (N := 5) hx hb hts iRX0 tyX0 tyX0_ok nmX0 hown hw b (by omega) ha19 he18 rfl 1 (by decide) (hts (.fieldLink RX0 15 "LibraryDesk$Holdings" "hereBits" "[J") (by decide +kernel)) (fun _ h9 => h9) rfl hin rfl (by decide +kernel) rfl rfl (Nat.le_of_ble_eq_true rfl) dX0_init_17 (fun en24 H locs hE23 hw => ?_)
  have he25 : en24 b = .inr (1, [.ref q5, .ref q17, .null, .null, .int 0]) := w_self hE23
  have he26 : en24 (b + 1) = .inl (q.1, 8, .inl ((fun _ => 0))) := w_ne hE23 (by omega) he20
  have he27 : en24 (b + 2) = .inl (q.2.1, 8, .inr (.inl ((fun _ => 0)))) := w_ne hE23 (by omega) he22
  refine lv_aload_n hx hb dX0_init_20 rfl (lv_at hl 0 rfl) ?_
  refine lv_bipush (v := 8) hx hb dX0_init_21 (by decide) ?_
  refine wr_newa (atype := .long) (ty := .long) (i := 8) (N' := 8) (a0 := (8, .inr (.inl (fun _ => 0)))) hx hb (hts (.arrayClass .long) (by decide +kernel)) rfl hw 1 rfl (fun C h => by cases h) (fun _ => rfl) (by decide) (by decide) (Nat.le_of_ble_eq_true rfl) (Nat.le_of_ble_eq_true rfl) (Nat.le_of_ble_eq_true rfl) dX0_init_23 (fun ad28 en29 H hg30 hE31 hw => ?_)
  obtain ⟨q32, hq32⟩ : ∃ z : Nat, z = ad28 (b + 3) := ⟨_, rfl⟩
  rw [← hq32]
  have he33 : en29 b = .inr (1, [.ref q5, .ref q17, .null, .null, .int 0]) := w_ne hE31 (by omega) he25
  have ha34 : ad b = ad28 b := (ha19).trans (hg30 b (by omega)).symm
  have he35 : en29 (b + 1) = .inl (q.1, 8, .inl ((fun _ => 0))) := w_ne hE31 (by omega) he26
  have ha36 : q5 = ad28 (b + 1) := (ha21).trans (hg30 (b + 1) (by omega)).symm
  have he37 : en29 (b + 2) = .inl (q.2.1, 8, .inr (.inl ((fun _ => 0)))) := w_ne hE31 (by omega) he27
  have ha38 : q17 = ad28 (b + 2) := (hq17).trans (hg30 (b + 2) (by omega)).symm
  have he39 : en29 (b + 3) = .inl (q.2.1, 8, .inr (.inl ((fun _ => 0)))) := w_self hE31
  refine wr_putFA (ci := 1) (v := .ref q32) (ty := .array .long) (C := RX0) (T := TX0) (N := 5) hx hb hts iRX0 tyX0 tyX0_ok nmX0 hown hw b (by omega) ha34 he33 rfl 2 (by decide) (hts (.fieldLink RX0 19 "LibraryDesk$Holdings" "tallies" "[J") (by decide +kernel)) (fun _ h9 => h9) rfl hin rfl (by decide +kernel) rfl rfl (Nat.le_of_ble_eq_true rfl) dX0_init_25 (fun en41 H locs hE40 hw => ?_)
  have he42 : en41 b = .inr (1, [.ref q5, .ref q17, .ref q32, .null, .int 0]) := w_self hE40
  have he43 : en41 (b + 1) = .inl (q.1, 8, .inl ((fun _ => 0))) := w_ne hE40 (by omega) he35
  have he44 : en41 (b + 2) = .inl (q.2.1, 8, .inr (.inl ((fun _ => 0)))) := w_ne hE40 (by omega) he37
  have he45 : en41 (b + 3) = .inl (q.2.1, 8, .inr (.inl ((fun _ => 0)))) := w_ne hE40 (by omega) he39
  refine lv_aload_n hx hb dX0_init_28 rfl (lv_at hl 0 rfl) ?_
  refine lv_bipush (v := 20) hx hb dX0_init_29 (by decide) ?_
  refine wr_newa (atype := .long) (ty := .long) (i := 20) (N' := 20) (a0 := (20, .inr (.inl (fun _ => 0)))) hx hb (hts (.arrayClass .long) (by decide +kernel)) rfl hw 1 rfl (fun C h => by cases h) (fun _ => rfl) (by decide) (by decide) (Nat.le_of_ble_eq_true rfl) (Nat.le_of_ble_eq_true rfl) (Nat.le_of_ble_eq_true rfl) dX0_init_31 (fun ad46 en47 H hg48 hE49 hw => ?_)
  obtain ⟨q50, hq50⟩ : ∃ z : Nat, z = ad46 (b + 4) := ⟨_, rfl⟩
  rw [← hq50]
  have he51 : en47 b = .inr (1, [.ref q5, .ref q17, .ref q32, .null, .int 0]) := w_ne hE49 (by omega) he42
  have ha52 : ad b = ad46 b := (ha34).trans (hg48 b (by omega)).symm
  have he53 : en47 (b + 1) = .inl (q.1, 8, .inl ((fun _ => 0))) := w_ne hE49 (by omega) he43
  have ha54 : q5 = ad46 (b + 1) := (ha36).trans (hg48 (b + 1) (by omega)).symm
  have he55 : en47 (b + 2) = .inl (q.2.1, 8, .inr (.inl ((fun _ => 0)))) := w_ne hE49 (by omega) he44
  have ha56 : q17 = ad46 (b + 2) := (ha38).trans (hg48 (b + 2) (by omega)).symm
  have he57 : en47 (b + 3) = .inl (q.2.1, 8, .inr (.inl ((fun _ => 0)))) := w_ne hE49 (by omega) he45
  have ha58 : q32 = ad46 (b + 3) := (hq32).trans (hg48 (b + 3) (by omega)).symm
  have he59 : en47 (b + 4) = .inl (q.2.1, 20, .inr (.inl ((fun _ => 0)))) := w_self hE49
  refine wr_putFA (ci := 1) (v := .ref q50) (ty := .array .long) (C := RX0) (T := TX0) (N := 5) hx hb hts iRX0 tyX0 tyX0_ok nmX0 hown hw b (by omega) ha52 he51 rfl 3 (by decide) (hts (.fieldLink RX0 22 "LibraryDesk$Holdings" "values" "[J") (by decide +kernel)) (fun _ h9 => h9) rfl hin rfl (by decide +kernel) rfl rfl (Nat.le_of_ble_eq_true rfl) dX0_init_33 (fun en61 H locs hE60 hw => ?_)
  have he62 : en61 b = .inr (1, [.ref q5, .ref q17, .ref q32, .ref q50, .int 0]) := w_self hE60
  have he63 : en61 (b + 1) = .inl (q.1, 8, .inl ((fun _ => 0))) := w_ne hE60 (by omega) he53
  have he64 : en61 (b + 2) = .inl (q.2.1, 8, .inr (.inl ((fun _ => 0)))) := w_ne hE60 (by omega) he55
  have he65 : en61 (b + 3) = .inl (q.2.1, 8, .inr (.inl ((fun _ => 0)))) := w_ne hE60 (by omega) he57
  have he66 : en61 (b + 4) = .inl (q.2.1, 20, .inr (.inl ((fun _ => 0)))) := w_ne hE60 (by omega) he59
  refine we_g hx hb hr hlocks hw ?_ dX0_init_36
  refine ⟨⟨_, _, _, _, ?_, he63, he64, he65, he66, RC_0⟩, fun j hj => (hg48 j (by omega)).trans ((hg30 j (by omega)).trans ((hg15 j (by omega)).trans (hg3 j (by omega)))), fun j hj => (w_fr hE60 (by omega)).trans ((w_fr hE49 (by omega)).trans ((w_fr hE40 (by omega)).trans ((w_fr hE31 (by omega)).trans ((w_fr hE23 (by omega)).trans ((w_fr hE16 (by omega)).trans ((w_fr hE9 (by omega)).trans (w_fr hE4 (by omega))))))))⟩
  show en61 b = .inr (1, [.ref (ad46 (b + 1)), .ref (ad46 (b + 2)), .ref (ad46 (b + 3)), .ref (ad46 (b + 4)), .int 0])
  rw [← ha54, ← ha56, ← ha58, ← hq50]
  exact he62

set_option maxHeartbeats 1000000 in
set_option maxRecDepth 100000 in
theorem kX1_init (l : Launch) (dC : Nat → ClassId) (dI : Nat → Nat → Nat) (q : ClassId × ClassId × ClassId × ClassId) (ad : Nat → Nat) (en : Nat → va_E) (sz : Nat) (b : Nat) (h0 : en b = .inr (2, [.int 0, .int 0, .null, .null, .int 0, .int 0])) :
    Met l yX1_init wsX1_init ({ frames := 1, cells := 2, slots := 12, locals := 12 }) (wPc (dC, dI) vwCl (wT q) ad en (b + 1) sz [.ref (ad b)]) (va_Qv (fun u => PlanAt q u.1 u.2 b P0 ∧ (∀ j, j < b + 1 → u.1 j = ad j) ∧ ∀ j, j < b → u.2 j = en j) (wG (dC, dI) vwCl (wT q) (b + 3) (wA ad (b + 1) sz)) (wA ad (b + 1) sz)) 2 12 (wA ad (b + 1) sz) := by
  refine Met.ofW (cc := cX1_init) (maxL := 1) (ret := none) (by decide) rfl ?_
  intro p e s m args below meth c s₁ B hml hv
  obtain ⟨rfl, hsz, hP, hK, hD0, hE0⟩ := hv
  have hx := B.exec
  have hb := B.bytes
  have hr := B.returns
  have hts := atoms_spec (ws := wsX1_init) B.pre
  have hown : s.vm.findClass RX1 = some m.cls := findClass_of_methodNamed B.named
  have hlocks := B.notSynchronized
  have hin : meth.name = "<init>" := (name_of_methodNamed B.named B.method).1
  have iRX1 : ∀ w ∈ u_ws RX1 TX1 6, w ∈ wsX1_init := by decide +kernel
  subst hsz
  have hw := wk_of hP hK hD0 hE0
  generalize wA ad (b + 1) s.heap.size = AA at hw ⊢
  have hl := lv_entry ([.ref (ad b)]) (n := 1) (Nat.le_of_ble_eq_true rfl)
  rw [lg_entry_eq]
  generalize (lg_sl ([.ref (ad b)]) ++ List.replicate (1 - (lg_sl ([.ref (ad b)])).length) Slot.unset).toArray = ls at hl ⊢
  have hl : lv_has ls 1 [(0, .ref (ad b))] := hl
  refine lv_aload_n hx hb dX1_init_0 rfl (lv_at hl 0 rfl) ?_
  refine W.objInit hx hb hown (hts (.methodLink RX1 3 objectInit) (by decide +kernel)) (hts (.instanceMethod objectInit) (by decide +kernel)) (hts _ (List.mem_cons_of_mem _ (List.mem_append_left _ (List.mem_of_getElem? (i := 2) rfl)))) rfl (by rw [hml]; exact hl.1) rfl dX1_init_1 (Nat.le_of_ble_eq_true rfl) (Nat.le_of_ble_eq_true rfl) ?_
  refine W.eq (g2 := F0 m 4 ls []) rfl ?_
  refine lv_aload_n hx hb dX1_init_4 rfl (lv_at hl 0 rfl) ?_
  refine lv_iconst (v := (-1)) hx hb dX1_init_5 (by decide) ?_
  refine wr_putA (ci := 2) (v := .int (-1)) (ty := .int) (C := RX1) (T := TX1) (N := 6) hx hb hts iRX1 tyX1 tyX1_ok nmX1 hown hw b (by omega) (Eq.refl (ad b)) h0 rfl 0 (by decide) (hts (.fieldLink RX1 9 "LibraryDesk$Plan" "wanted" "I") (by decide +kernel)) (fun _ h9 => h9) rfl (by decide +kernel) rfl rfl (Nat.le_of_ble_eq_true rfl) dX1_init_6 (fun en2 H locs hE1 hw => ?_)
  have he3 : en2 b = .inr (2, [.int (-1), .int 0, .null, .null, .int 0, .int 0]) := w_self hE1
  refine lv_aload_n hx hb dX1_init_9 rfl (lv_at hl 0 rfl) ?_
  refine lv_bipush (v := 6) hx hb dX1_init_10 (by decide) ?_
  refine wr_newa (atype := .int) (ty := .int) (i := 6) (N' := 6) (a0 := (6, .inl (fun _ => 0))) hx hb (hts (.arrayClass .int) (by decide +kernel)) rfl hw 0 rfl (fun C h => by cases h) (fun _ => rfl) (by decide) (by decide) (Nat.le_of_ble_eq_true rfl) (Nat.le_of_ble_eq_true rfl) (Nat.le_of_ble_eq_true rfl) dX1_init_12 (fun ad4 en5 H hg6 hE7 hw => ?_)
  obtain ⟨q8, hq8⟩ : ∃ z : Nat, z = ad4 (b + 1) := ⟨_, rfl⟩
  rw [← hq8]
  have he9 : en5 b = .inr (2, [.int (-1), .int 0, .null, .null, .int 0, .int 0]) := w_ne hE7 (by omega) he3
  have ha10 : ad b = ad4 b := ((Eq.refl (ad b))).trans (hg6 b (by omega)).symm
  have he11 : en5 (b + 1) = .inl (q.1, 6, .inl ((fun _ => 0))) := w_self hE7
  refine wr_putFA (ci := 2) (v := .ref q8) (ty := .array .int) (C := RX1) (T := TX1) (N := 6) hx hb hts iRX1 tyX1 tyX1_ok nmX1 hown hw b (by omega) ha10 he9 rfl 2 (by decide) (hts (.fieldLink RX1 15 "LibraryDesk$Plan" "sorts" "[I") (by decide +kernel)) (fun _ h9 => h9) rfl hin rfl (by decide +kernel) rfl rfl (Nat.le_of_ble_eq_true rfl) dX1_init_14 (fun en13 H locs hE12 hw => ?_)
  have he14 : en13 b = .inr (2, [.int (-1), .int 0, .ref q8, .null, .int 0, .int 0]) := w_self hE12
  have he15 : en13 (b + 1) = .inl (q.1, 6, .inl ((fun _ => 0))) := w_ne hE12 (by omega) he11
  refine lv_aload_n hx hb dX1_init_17 rfl (lv_at hl 0 rfl) ?_
  refine lv_bipush (v := 6) hx hb dX1_init_18 (by decide) ?_
  refine wr_newa (atype := .int) (ty := .int) (i := 6) (N' := 6) (a0 := (6, .inl (fun _ => 0))) hx hb (hts (.arrayClass .int) (by decide +kernel)) rfl hw 0 rfl (fun C h => by cases h) (fun _ => rfl) (by decide) (by decide) (Nat.le_of_ble_eq_true rfl) (Nat.le_of_ble_eq_true rfl) (Nat.le_of_ble_eq_true rfl) dX1_init_20 (fun ad16 en17 H hg18 hE19 hw => ?_)
  obtain ⟨q20, hq20⟩ : ∃ z : Nat, z = ad16 (b + 2) := ⟨_, rfl⟩
  rw [← hq20]
  have he21 : en17 b = .inr (2, [.int (-1), .int 0, .ref q8, .null, .int 0, .int 0]) := w_ne hE19 (by omega) he14
  have ha22 : ad b = ad16 b := (ha10).trans (hg18 b (by omega)).symm
  have he23 : en17 (b + 1) = .inl (q.1, 6, .inl ((fun _ => 0))) := w_ne hE19 (by omega) he15
  have ha24 : q8 = ad16 (b + 1) := (hq8).trans (hg18 (b + 1) (by omega)).symm
  have he25 : en17 (b + 2) = .inl (q.1, 6, .inl ((fun _ => 0))) := w_self hE19
  refine wr_putFA (ci := 2) (v := .ref q20) (ty := .array .int) (C := RX1) (T := TX1) (N := 6) hx hb hts iRX1 tyX1 tyX1_ok nmX1 hown hw b (by omega) ha22 he21 rfl 3 (by decide) (hts (.fieldLink RX1 19 "LibraryDesk$Plan" "kinds" "[I") (by decide +kernel)) (fun _ h9 => h9) rfl hin rfl (by decide +kernel) rfl rfl (Nat.le_of_ble_eq_true rfl) dX1_init_22 (fun en27 H locs hE26 hw => ?_)
  have he28 : en27 b = .inr (2, [.int (-1), .int 0, .ref q8, .ref q20, .int 0, .int 0]) := w_self hE26
  have he29 : en27 (b + 1) = .inl (q.1, 6, .inl ((fun _ => 0))) := w_ne hE26 (by omega) he23
  have he30 : en27 (b + 2) = .inl (q.1, 6, .inl ((fun _ => 0))) := w_ne hE26 (by omega) he25
  refine lv_aload_n hx hb dX1_init_25 rfl (lv_at hl 0 rfl) ?_
  refine lv_iconst (v := (-1)) hx hb dX1_init_26 (by decide) ?_
  refine wr_putA (ci := 2) (v := .int (-1)) (ty := .int) (C := RX1) (T := TX1) (N := 6) hx hb hts iRX1 tyX1 tyX1_ok nmX1 hown hw b (by omega) ha22 he28 rfl 4 (by decide) (hts (.fieldLink RX1 22 "LibraryDesk$Plan" "toldAct" "I") (by decide +kernel)) (fun _ h9 => h9) rfl (by decide +kernel) rfl rfl (Nat.le_of_ble_eq_true rfl) dX1_init_27 (fun en32 H locs hE31 hw => ?_)
  have he33 : en32 b = .inr (2, [.int (-1), .int 0, .ref q8, .ref q20, .int (-1), .int 0]) := w_self hE31
  have he34 : en32 (b + 1) = .inl (q.1, 6, .inl ((fun _ => 0))) := w_ne hE31 (by omega) he29
  have he35 : en32 (b + 2) = .inl (q.1, 6, .inl ((fun _ => 0))) := w_ne hE31 (by omega) he30
  refine we_g hx hb hr hlocks hw ?_ dX1_init_30
  refine ⟨⟨_, _, ?_, he34, he35, fun i hi => absurd hi (Nat.not_lt_zero i)⟩, fun j hj => (hg18 j (by omega)).trans (hg6 j (by omega)), fun j hj => (w_fr hE31 (by omega)).trans ((w_fr hE26 (by omega)).trans ((w_fr hE19 (by omega)).trans ((w_fr hE12 (by omega)).trans ((w_fr hE7 (by omega)).trans (w_fr hE1 (by omega))))))⟩
  show en32 b = .inr (2, [.int (-1), .int 0, .ref (ad16 (b + 1)), .ref (ad16 (b + 2)), .int (-1), .int 0])
  rw [← ha24, ← hq20]
  exact he33

set_option maxHeartbeats 1000000 in
set_option maxRecDepth 100000 in
theorem kX3_init (l : Launch) (dC : Nat → ClassId) (dI : Nat → Nat → Nat) (q : ClassId × ClassId × ClassId × ClassId) (ad : Nat → Nat) (en : Nat → va_E) (sz : Nat) (h0 : en 42 = .inr (4, [.int 0, .null, .null, .null, .null, .int 0, .null, .null, .null, .null, .int 0, .null, .null, .null, .null, .null, .null, .null, .long 0, .int 0, .int 0])) :
    Met l yX3_init wsX3_init ({ frames := 1, cells := 15, slots := 895, locals := 12 }) (wPc (dC, dI) vwCl (wT q) ad en 43 sz [.ref (ad 42)]) (va_Qv (fun u => ModAt q u.1 u.2 0 A0 (fun _ => P0) (fun _ => 0) ∧ (∀ j, j < 42 + 1 → u.1 j = ad j) ∧ ∀ j, j < 42 → u.2 j = en j) (wG (dC, dI) vwCl (wT q) 58 (wA ad 43 sz)) (wA ad 43 sz)) 15 895 (wA ad 43 sz) := by
  refine Met.ofW (cc := cX3_init) (maxL := 2) (ret := none) (by decide) rfl ?_
  intro p e s m args below meth c s₁ B hml hv
  obtain ⟨rfl, hsz, hP, hK, hD0, hE0⟩ := hv
  have hx := B.exec
  have hb := B.bytes
  have hr := B.returns
  have hts := atoms_spec (ws := wsX3_init) B.pre
  have hown : s.vm.findClass RX3 = some m.cls := findClass_of_methodNamed B.named
  have hlocks := B.notSynchronized
  have hin : meth.name = "<init>" := (name_of_methodNamed B.named B.method).1
  have iRX3 : ∀ w ∈ u_ws RX3 TX3 21, w ∈ wsX3_init := by decide +kernel
  subst hsz
  have hw := wk_of hP hK hD0 hE0
  generalize wA ad 43 s.heap.size = AA at hw ⊢
  have hl := lv_entry ([.ref (ad 42)]) (n := 2) (Nat.le_of_ble_eq_true rfl)
  rw [lg_entry_eq]
  generalize (lg_sl ([.ref (ad 42)]) ++ List.replicate (2 - (lg_sl ([.ref (ad 42)])).length) Slot.unset).toArray = ls at hl ⊢
  have hl : lv_has ls 2 [(0, .ref (ad 42))] := hl
  refine lv_aload_n hx hb dX3_init_0 rfl (lv_at hl 0 rfl) ?_
  refine W.objInit hx hb hown (hts (.methodLink RX3 1 objectInit) (by decide +kernel)) (hts (.instanceMethod objectInit) (by decide +kernel)) (hts _ (List.mem_cons_of_mem _ (List.mem_append_left _ (List.mem_of_getElem? (i := 2) rfl)))) rfl (by rw [hml]; exact hl.1) rfl dX3_init_1 (Nat.le_of_ble_eq_true rfl) (Nat.le_of_ble_eq_true rfl) ?_
  refine W.eq (g2 := F0 m 4 ls []) rfl ?_
  refine lv_aload_n hx hb dX3_init_4 rfl (lv_at hl 0 rfl) ?_
  refine lv_sipush (v := 328) hx hb dX3_init_5 (by decide) ?_
  refine wr_newa (atype := .boolean) (ty := .boolean) (i := 328) (N' := 328) (a0 := (328, .inl (fun _ => 0))) hx hb (hts (.arrayClass .boolean) (by decide +kernel)) rfl hw 2 rfl (fun C h => by cases h) (fun _ => rfl) (by decide) (by decide) (Nat.le_of_ble_eq_true rfl) (Nat.le_of_ble_eq_true rfl) (Nat.le_of_ble_eq_true rfl) dX3_init_8 (fun ad1 en2 H hg3 hE4 hw => ?_)
  obtain ⟨q5, hq5⟩ : ∃ z : Nat, z = ad1 43 := ⟨_, rfl⟩
  rw [← hq5]
  have he6 : en2 42 = .inr (4, [.int 0, .null, .null, .null, .null, .int 0, .null, .null, .null, .null, .int 0, .null, .null, .null, .null, .null, .null, .null, .long 0, .int 0, .int 0]) := w_ne hE4 (by omega) h0
  have ha7 : ad 42 = ad1 42 := ((Eq.refl (ad 42))).trans (hg3 42 (by omega)).symm
  have he8 : en2 43 = .inl (q.2.2.1, 328, .inl ((fun _ => 0))) := w_self hE4
  refine wr_putFA (ci := 4) (v := .ref q5) (ty := .array .boolean) (C := RX3) (T := TX3) (N := 21) hx hb hts iRX3 tyX3 tyX3_ok nmX3 hown hw 42 (by omega) ha7 he6 rfl 1 (by decide) (hts (.fieldLink RX3 7 "LibraryDeskModel" "here" "[Z") (by decide +kernel)) (fun _ h9 => h9) rfl hin rfl (by decide +kernel) rfl rfl (Nat.le_of_ble_eq_true rfl) dX3_init_10 (fun en10 H locs hE9 hw => ?_)
  have he11 : en10 42 = .inr (4, [.int 0, .ref q5, .null, .null, .null, .int 0, .null, .null, .null, .null, .int 0, .null, .null, .null, .null, .null, .null, .null, .long 0, .int 0, .int 0]) := w_self hE9
  have he12 : en10 43 = .inl (q.2.2.1, 328, .inl ((fun _ => 0))) := w_ne hE9 (by omega) he8
  refine lv_aload_n hx hb dX3_init_13 rfl (lv_at hl 0 rfl) ?_
  refine lv_bipush (v := 8) hx hb dX3_init_14 (by decide) ?_
  refine wr_newa (atype := .int) (ty := .int) (i := 8) (N' := 8) (a0 := (8, .inl (fun _ => 0))) hx hb (hts (.arrayClass .int) (by decide +kernel)) rfl hw 0 rfl (fun C h => by cases h) (fun _ => rfl) (by decide) (by decide) (Nat.le_of_ble_eq_true rfl) (Nat.le_of_ble_eq_true rfl) (Nat.le_of_ble_eq_true rfl) dX3_init_16 (fun ad13 en14 H hg15 hE16 hw => ?_)
  obtain ⟨q17, hq17⟩ : ∃ z : Nat, z = ad13 44 := ⟨_, rfl⟩
  rw [← hq17]
  have he18 : en14 42 = .inr (4, [.int 0, .ref q5, .null, .null, .null, .int 0, .null, .null, .null, .null, .int 0, .null, .null, .null, .null, .null, .null, .null, .long 0, .int 0, .int 0]) := w_ne hE16 (by omega) he11
  have ha19 : ad 42 = ad13 42 := (ha7).trans (hg15 42 (by omega)).symm
  have he20 : en14 43 = .inl (q.2.2.1, 328, .inl ((fun _ => 0))) := w_ne hE16 (by omega) he12
  have ha21 : q5 = ad13 43 := (hq5).trans (hg15 43 (by omega)).symm
  have he22 : en14 44 = .inl (q.1, 8, .inl ((fun _ => 0))) := w_self hE16
  refine wr_putFA (ci := 4) (v := .ref q17) (ty := .array .int) (C := RX3) (T := TX3) (N := 21) hx hb hts iRX3 tyX3 tyX3_ok nmX3 hown hw 42 (by omega) ha19 he18 rfl 2 (by decide) (hts (.fieldLink RX3 13 "LibraryDeskModel" "made" "[I") (by decide +kernel)) (fun _ h9 => h9) rfl hin rfl (by decide +kernel) rfl rfl (Nat.le_of_ble_eq_true rfl) dX3_init_18 (fun en24 H locs hE23 hw => ?_)
  have he25 : en24 42 = .inr (4, [.int 0, .ref q5, .ref q17, .null, .null, .int 0, .null, .null, .null, .null, .int 0, .null, .null, .null, .null, .null, .null, .null, .long 0, .int 0, .int 0]) := w_self hE23
  have he26 : en24 43 = .inl (q.2.2.1, 328, .inl ((fun _ => 0))) := w_ne hE23 (by omega) he20
  have he27 : en24 44 = .inl (q.1, 8, .inl ((fun _ => 0))) := w_ne hE23 (by omega) he22
  refine lv_aload_n hx hb dX3_init_21 rfl (lv_at hl 0 rfl) ?_
  refine lv_bipush (v := 8) hx hb dX3_init_22 (by decide) ?_
  refine wr_newa (atype := .long) (ty := .long) (i := 8) (N' := 8) (a0 := (8, .inr (.inl (fun _ => 0)))) hx hb (hts (.arrayClass .long) (by decide +kernel)) rfl hw 1 rfl (fun C h => by cases h) (fun _ => rfl) (by decide) (by decide) (Nat.le_of_ble_eq_true rfl) (Nat.le_of_ble_eq_true rfl) (Nat.le_of_ble_eq_true rfl) dX3_init_24 (fun ad28 en29 H hg30 hE31 hw => ?_)
  obtain ⟨q32, hq32⟩ : ∃ z : Nat, z = ad28 45 := ⟨_, rfl⟩
  rw [← hq32]
  have he33 : en29 42 = .inr (4, [.int 0, .ref q5, .ref q17, .null, .null, .int 0, .null, .null, .null, .null, .int 0, .null, .null, .null, .null, .null, .null, .null, .long 0, .int 0, .int 0]) := w_ne hE31 (by omega) he25
  have ha34 : ad 42 = ad28 42 := (ha19).trans (hg30 42 (by omega)).symm
  have he35 : en29 43 = .inl (q.2.2.1, 328, .inl ((fun _ => 0))) := w_ne hE31 (by omega) he26
  have ha36 : q5 = ad28 43 := (ha21).trans (hg30 43 (by omega)).symm
  have he37 : en29 44 = .inl (q.1, 8, .inl ((fun _ => 0))) := w_ne hE31 (by omega) he27
  have ha38 : q17 = ad28 44 := (hq17).trans (hg30 44 (by omega)).symm
  have he39 : en29 45 = .inl (q.2.1, 8, .inr (.inl ((fun _ => 0)))) := w_self hE31
  refine wr_putFA (ci := 4) (v := .ref q32) (ty := .array .long) (C := RX3) (T := TX3) (N := 21) hx hb hts iRX3 tyX3 tyX3_ok nmX3 hown hw 42 (by omega) ha34 he33 rfl 3 (by decide) (hts (.fieldLink RX3 17 "LibraryDeskModel" "tallies" "[J") (by decide +kernel)) (fun _ h9 => h9) rfl hin rfl (by decide +kernel) rfl rfl (Nat.le_of_ble_eq_true rfl) dX3_init_26 (fun en41 H locs hE40 hw => ?_)
  have he42 : en41 42 = .inr (4, [.int 0, .ref q5, .ref q17, .ref q32, .null, .int 0, .null, .null, .null, .null, .int 0, .null, .null, .null, .null, .null, .null, .null, .long 0, .int 0, .int 0]) := w_self hE40
  have he43 : en41 43 = .inl (q.2.2.1, 328, .inl ((fun _ => 0))) := w_ne hE40 (by omega) he35
  have he44 : en41 44 = .inl (q.1, 8, .inl ((fun _ => 0))) := w_ne hE40 (by omega) he37
  have he45 : en41 45 = .inl (q.2.1, 8, .inr (.inl ((fun _ => 0)))) := w_ne hE40 (by omega) he39
  refine lv_aload_n hx hb dX3_init_29 rfl (lv_at hl 0 rfl) ?_
  refine lv_bipush (v := 20) hx hb dX3_init_30 (by decide) ?_
  refine wr_newa (atype := .long) (ty := .long) (i := 20) (N' := 20) (a0 := (20, .inr (.inl (fun _ => 0)))) hx hb (hts (.arrayClass .long) (by decide +kernel)) rfl hw 1 rfl (fun C h => by cases h) (fun _ => rfl) (by decide) (by decide) (Nat.le_of_ble_eq_true rfl) (Nat.le_of_ble_eq_true rfl) (Nat.le_of_ble_eq_true rfl) dX3_init_32 (fun ad46 en47 H hg48 hE49 hw => ?_)
  obtain ⟨q50, hq50⟩ : ∃ z : Nat, z = ad46 46 := ⟨_, rfl⟩
  rw [← hq50]
  have he51 : en47 42 = .inr (4, [.int 0, .ref q5, .ref q17, .ref q32, .null, .int 0, .null, .null, .null, .null, .int 0, .null, .null, .null, .null, .null, .null, .null, .long 0, .int 0, .int 0]) := w_ne hE49 (by omega) he42
  have ha52 : ad 42 = ad46 42 := (ha34).trans (hg48 42 (by omega)).symm
  have he53 : en47 43 = .inl (q.2.2.1, 328, .inl ((fun _ => 0))) := w_ne hE49 (by omega) he43
  have ha54 : q5 = ad46 43 := (ha36).trans (hg48 43 (by omega)).symm
  have he55 : en47 44 = .inl (q.1, 8, .inl ((fun _ => 0))) := w_ne hE49 (by omega) he44
  have ha56 : q17 = ad46 44 := (ha38).trans (hg48 44 (by omega)).symm
  have he57 : en47 45 = .inl (q.2.1, 8, .inr (.inl ((fun _ => 0)))) := w_ne hE49 (by omega) he45
  have ha58 : q32 = ad46 45 := (hq32).trans (hg48 45 (by omega)).symm
  have he59 : en47 46 = .inl (q.2.1, 20, .inr (.inl ((fun _ => 0)))) := w_self hE49
  refine wr_putFA (ci := 4) (v := .ref q50) (ty := .array .long) (C := RX3) (T := TX3) (N := 21) hx hb hts iRX3 tyX3 tyX3_ok nmX3 hown hw 42 (by omega) ha52 he51 rfl 4 (by decide) (hts (.fieldLink RX3 21 "LibraryDeskModel" "row" "[J") (by decide +kernel)) (fun _ h9 => h9) rfl hin rfl (by decide +kernel) rfl rfl (Nat.le_of_ble_eq_true rfl) dX3_init_34 (fun en61 H locs hE60 hw => ?_)
  have he62 : en61 42 = .inr (4, [.int 0, .ref q5, .ref q17, .ref q32, .ref q50, .int 0, .null, .null, .null, .null, .int 0, .null, .null, .null, .null, .null, .null, .null, .long 0, .int 0, .int 0]) := w_self hE60
  have he63 : en61 43 = .inl (q.2.2.1, 328, .inl ((fun _ => 0))) := w_ne hE60 (by omega) he53
  have he64 : en61 44 = .inl (q.1, 8, .inl ((fun _ => 0))) := w_ne hE60 (by omega) he55
  have he65 : en61 45 = .inl (q.2.1, 8, .inr (.inl ((fun _ => 0)))) := w_ne hE60 (by omega) he57
  have he66 : en61 46 = .inl (q.2.1, 20, .inr (.inl ((fun _ => 0)))) := w_ne hE60 (by omega) he59
  refine lv_aload_n hx hb dX3_init_37 rfl (lv_at hl 0 rfl) ?_
  refine lv_sipush (v := 328) hx hb dX3_init_38 (by decide) ?_
  refine wr_newa (atype := .boolean) (ty := .boolean) (i := 328) (N' := 328) (a0 := (328, .inl (fun _ => 0))) hx hb (hts (.arrayClass .boolean) (by decide +kernel)) rfl hw 2 rfl (fun C h => by cases h) (fun _ => rfl) (by decide) (by decide) (Nat.le_of_ble_eq_true rfl) (Nat.le_of_ble_eq_true rfl) (Nat.le_of_ble_eq_true rfl) dX3_init_41 (fun ad67 en68 H hg69 hE70 hw => ?_)
  obtain ⟨q71, hq71⟩ : ∃ z : Nat, z = ad67 47 := ⟨_, rfl⟩
  rw [← hq71]
  have he72 : en68 42 = .inr (4, [.int 0, .ref q5, .ref q17, .ref q32, .ref q50, .int 0, .null, .null, .null, .null, .int 0, .null, .null, .null, .null, .null, .null, .null, .long 0, .int 0, .int 0]) := w_ne hE70 (by omega) he62
  have ha73 : ad 42 = ad67 42 := (ha52).trans (hg69 42 (by omega)).symm
  have he74 : en68 43 = .inl (q.2.2.1, 328, .inl ((fun _ => 0))) := w_ne hE70 (by omega) he63
  have ha75 : q5 = ad67 43 := (ha54).trans (hg69 43 (by omega)).symm
  have he76 : en68 44 = .inl (q.1, 8, .inl ((fun _ => 0))) := w_ne hE70 (by omega) he64
  have ha77 : q17 = ad67 44 := (ha56).trans (hg69 44 (by omega)).symm
  have he78 : en68 45 = .inl (q.2.1, 8, .inr (.inl ((fun _ => 0)))) := w_ne hE70 (by omega) he65
  have ha79 : q32 = ad67 45 := (ha58).trans (hg69 45 (by omega)).symm
  have he80 : en68 46 = .inl (q.2.1, 20, .inr (.inl ((fun _ => 0)))) := w_ne hE70 (by omega) he66
  have ha81 : q50 = ad67 46 := (hq50).trans (hg69 46 (by omega)).symm
  have he82 : en68 47 = .inl (q.2.2.1, 328, .inl ((fun _ => 0))) := w_self hE70
  refine wr_putFA (ci := 4) (v := .ref q71) (ty := .array .boolean) (C := RX3) (T := TX3) (N := 21) hx hb hts iRX3 tyX3 tyX3_ok nmX3 hown hw 42 (by omega) ha73 he72 rfl 6 (by decide) (hts (.fieldLink RX3 24 "LibraryDeskModel" "oldHere" "[Z") (by decide +kernel)) (fun _ h9 => h9) rfl hin rfl (by decide +kernel) rfl rfl (Nat.le_of_ble_eq_true rfl) dX3_init_43 (fun en84 H locs hE83 hw => ?_)
  have he85 : en84 42 = .inr (4, [.int 0, .ref q5, .ref q17, .ref q32, .ref q50, .int 0, .ref q71, .null, .null, .null, .int 0, .null, .null, .null, .null, .null, .null, .null, .long 0, .int 0, .int 0]) := w_self hE83
  have he86 : en84 43 = .inl (q.2.2.1, 328, .inl ((fun _ => 0))) := w_ne hE83 (by omega) he74
  have he87 : en84 44 = .inl (q.1, 8, .inl ((fun _ => 0))) := w_ne hE83 (by omega) he76
  have he88 : en84 45 = .inl (q.2.1, 8, .inr (.inl ((fun _ => 0)))) := w_ne hE83 (by omega) he78
  have he89 : en84 46 = .inl (q.2.1, 20, .inr (.inl ((fun _ => 0)))) := w_ne hE83 (by omega) he80
  have he90 : en84 47 = .inl (q.2.2.1, 328, .inl ((fun _ => 0))) := w_ne hE83 (by omega) he82
  refine lv_aload_n hx hb dX3_init_46 rfl (lv_at hl 0 rfl) ?_
  refine lv_bipush (v := 8) hx hb dX3_init_47 (by decide) ?_
  refine wr_newa (atype := .int) (ty := .int) (i := 8) (N' := 8) (a0 := (8, .inl (fun _ => 0))) hx hb (hts (.arrayClass .int) (by decide +kernel)) rfl hw 0 rfl (fun C h => by cases h) (fun _ => rfl) (by decide) (by decide) (Nat.le_of_ble_eq_true rfl) (Nat.le_of_ble_eq_true rfl) (Nat.le_of_ble_eq_true rfl) dX3_init_49 (fun ad91 en92 H hg93 hE94 hw => ?_)
  obtain ⟨q95, hq95⟩ : ∃ z : Nat, z = ad91 48 := ⟨_, rfl⟩
  rw [← hq95]
  have he96 : en92 42 = .inr (4, [.int 0, .ref q5, .ref q17, .ref q32, .ref q50, .int 0, .ref q71, .null, .null, .null, .int 0, .null, .null, .null, .null, .null, .null, .null, .long 0, .int 0, .int 0]) := w_ne hE94 (by omega) he85
  have ha97 : ad 42 = ad91 42 := (ha73).trans (hg93 42 (by omega)).symm
  have he98 : en92 43 = .inl (q.2.2.1, 328, .inl ((fun _ => 0))) := w_ne hE94 (by omega) he86
  have ha99 : q5 = ad91 43 := (ha75).trans (hg93 43 (by omega)).symm
  have he100 : en92 44 = .inl (q.1, 8, .inl ((fun _ => 0))) := w_ne hE94 (by omega) he87
  have ha101 : q17 = ad91 44 := (ha77).trans (hg93 44 (by omega)).symm
  have he102 : en92 45 = .inl (q.2.1, 8, .inr (.inl ((fun _ => 0)))) := w_ne hE94 (by omega) he88
  have ha103 : q32 = ad91 45 := (ha79).trans (hg93 45 (by omega)).symm
  have he104 : en92 46 = .inl (q.2.1, 20, .inr (.inl ((fun _ => 0)))) := w_ne hE94 (by omega) he89
  have ha105 : q50 = ad91 46 := (ha81).trans (hg93 46 (by omega)).symm
  have he106 : en92 47 = .inl (q.2.2.1, 328, .inl ((fun _ => 0))) := w_ne hE94 (by omega) he90
  have ha107 : q71 = ad91 47 := (hq71).trans (hg93 47 (by omega)).symm
  have he108 : en92 48 = .inl (q.1, 8, .inl ((fun _ => 0))) := w_self hE94
  refine wr_putFA (ci := 4) (v := .ref q95) (ty := .array .int) (C := RX3) (T := TX3) (N := 21) hx hb hts iRX3 tyX3 tyX3_ok nmX3 hown hw 42 (by omega) ha97 he96 rfl 7 (by decide) (hts (.fieldLink RX3 27 "LibraryDeskModel" "oldMade" "[I") (by decide +kernel)) (fun _ h9 => h9) rfl hin rfl (by decide +kernel) rfl rfl (Nat.le_of_ble_eq_true rfl) dX3_init_51 (fun en110 H locs hE109 hw => ?_)
  have he111 : en110 42 = .inr (4, [.int 0, .ref q5, .ref q17, .ref q32, .ref q50, .int 0, .ref q71, .ref q95, .null, .null, .int 0, .null, .null, .null, .null, .null, .null, .null, .long 0, .int 0, .int 0]) := w_self hE109
  have he112 : en110 43 = .inl (q.2.2.1, 328, .inl ((fun _ => 0))) := w_ne hE109 (by omega) he98
  have he113 : en110 44 = .inl (q.1, 8, .inl ((fun _ => 0))) := w_ne hE109 (by omega) he100
  have he114 : en110 45 = .inl (q.2.1, 8, .inr (.inl ((fun _ => 0)))) := w_ne hE109 (by omega) he102
  have he115 : en110 46 = .inl (q.2.1, 20, .inr (.inl ((fun _ => 0)))) := w_ne hE109 (by omega) he104
  have he116 : en110 47 = .inl (q.2.2.1, 328, .inl ((fun _ => 0))) := w_ne hE109 (by omega) he106
  have he117 : en110 48 = .inl (q.1, 8, .inl ((fun _ => 0))) := w_ne hE109 (by omega) he108
  refine lv_aload_n hx hb dX3_init_54 rfl (lv_at hl 0 rfl) ?_
  refine lv_bipush (v := 8) hx hb dX3_init_55 (by decide) ?_
  refine wr_newa (atype := .long) (ty := .long) (i := 8) (N' := 8) (a0 := (8, .inr (.inl (fun _ => 0)))) hx hb (hts (.arrayClass .long) (by decide +kernel)) rfl hw 1 rfl (fun C h => by cases h) (fun _ => rfl) (by decide) (by decide) (Nat.le_of_ble_eq_true rfl) (Nat.le_of_ble_eq_true rfl) (Nat.le_of_ble_eq_true rfl) dX3_init_57 (fun ad118 en119 H hg120 hE121 hw => ?_)
  obtain ⟨q122, hq122⟩ : ∃ z : Nat, z = ad118 49 := ⟨_, rfl⟩
  rw [← hq122]
  have he123 : en119 42 = .inr (4, [.int 0, .ref q5, .ref q17, .ref q32, .ref q50, .int 0, .ref q71, .ref q95, .null, .null, .int 0, .null, .null, .null, .null, .null, .null, .null, .long 0, .int 0, .int 0]) := w_ne hE121 (by omega) he111
  have ha124 : ad 42 = ad118 42 := (ha97).trans (hg120 42 (by omega)).symm
  have he125 : en119 43 = .inl (q.2.2.1, 328, .inl ((fun _ => 0))) := w_ne hE121 (by omega) he112
  have ha126 : q5 = ad118 43 := (ha99).trans (hg120 43 (by omega)).symm
  have he127 : en119 44 = .inl (q.1, 8, .inl ((fun _ => 0))) := w_ne hE121 (by omega) he113
  have ha128 : q17 = ad118 44 := (ha101).trans (hg120 44 (by omega)).symm
  have he129 : en119 45 = .inl (q.2.1, 8, .inr (.inl ((fun _ => 0)))) := w_ne hE121 (by omega) he114
  have ha130 : q32 = ad118 45 := (ha103).trans (hg120 45 (by omega)).symm
  have he131 : en119 46 = .inl (q.2.1, 20, .inr (.inl ((fun _ => 0)))) := w_ne hE121 (by omega) he115
  have ha132 : q50 = ad118 46 := (ha105).trans (hg120 46 (by omega)).symm
  have he133 : en119 47 = .inl (q.2.2.1, 328, .inl ((fun _ => 0))) := w_ne hE121 (by omega) he116
  have ha134 : q71 = ad118 47 := (ha107).trans (hg120 47 (by omega)).symm
  have he135 : en119 48 = .inl (q.1, 8, .inl ((fun _ => 0))) := w_ne hE121 (by omega) he117
  have ha136 : q95 = ad118 48 := (hq95).trans (hg120 48 (by omega)).symm
  have he137 : en119 49 = .inl (q.2.1, 8, .inr (.inl ((fun _ => 0)))) := w_self hE121
  refine wr_putFA (ci := 4) (v := .ref q122) (ty := .array .long) (C := RX3) (T := TX3) (N := 21) hx hb hts iRX3 tyX3 tyX3_ok nmX3 hown hw 42 (by omega) ha124 he123 rfl 8 (by decide) (hts (.fieldLink RX3 30 "LibraryDeskModel" "oldTallies" "[J") (by decide +kernel)) (fun _ h9 => h9) rfl hin rfl (by decide +kernel) rfl rfl (Nat.le_of_ble_eq_true rfl) dX3_init_59 (fun en139 H locs hE138 hw => ?_)
  have he140 : en139 42 = .inr (4, [.int 0, .ref q5, .ref q17, .ref q32, .ref q50, .int 0, .ref q71, .ref q95, .ref q122, .null, .int 0, .null, .null, .null, .null, .null, .null, .null, .long 0, .int 0, .int 0]) := w_self hE138
  have he141 : en139 43 = .inl (q.2.2.1, 328, .inl ((fun _ => 0))) := w_ne hE138 (by omega) he125
  have he142 : en139 44 = .inl (q.1, 8, .inl ((fun _ => 0))) := w_ne hE138 (by omega) he127
  have he143 : en139 45 = .inl (q.2.1, 8, .inr (.inl ((fun _ => 0)))) := w_ne hE138 (by omega) he129
  have he144 : en139 46 = .inl (q.2.1, 20, .inr (.inl ((fun _ => 0)))) := w_ne hE138 (by omega) he131
  have he145 : en139 47 = .inl (q.2.2.1, 328, .inl ((fun _ => 0))) := w_ne hE138 (by omega) he133
  have he146 : en139 48 = .inl (q.1, 8, .inl ((fun _ => 0))) := w_ne hE138 (by omega) he135
  have he147 : en139 49 = .inl (q.2.1, 8, .inr (.inl ((fun _ => 0)))) := w_ne hE138 (by omega) he137
  refine lv_aload_n hx hb dX3_init_62 rfl (lv_at hl 0 rfl) ?_
  refine lv_bipush (v := 20) hx hb dX3_init_63 (by decide) ?_
  refine wr_newa (atype := .long) (ty := .long) (i := 20) (N' := 20) (a0 := (20, .inr (.inl (fun _ => 0)))) hx hb (hts (.arrayClass .long) (by decide +kernel)) rfl hw 1 rfl (fun C h => by cases h) (fun _ => rfl) (by decide) (by decide) (Nat.le_of_ble_eq_true rfl) (Nat.le_of_ble_eq_true rfl) (Nat.le_of_ble_eq_true rfl) dX3_init_65 (fun ad148 en149 H hg150 hE151 hw => ?_)
  obtain ⟨q152, hq152⟩ : ∃ z : Nat, z = ad148 50 := ⟨_, rfl⟩
  rw [← hq152]
  have he153 : en149 42 = .inr (4, [.int 0, .ref q5, .ref q17, .ref q32, .ref q50, .int 0, .ref q71, .ref q95, .ref q122, .null, .int 0, .null, .null, .null, .null, .null, .null, .null, .long 0, .int 0, .int 0]) := w_ne hE151 (by omega) he140
  have ha154 : ad 42 = ad148 42 := (ha124).trans (hg150 42 (by omega)).symm
  have he155 : en149 43 = .inl (q.2.2.1, 328, .inl ((fun _ => 0))) := w_ne hE151 (by omega) he141
  have ha156 : q5 = ad148 43 := (ha126).trans (hg150 43 (by omega)).symm
  have he157 : en149 44 = .inl (q.1, 8, .inl ((fun _ => 0))) := w_ne hE151 (by omega) he142
  have ha158 : q17 = ad148 44 := (ha128).trans (hg150 44 (by omega)).symm
  have he159 : en149 45 = .inl (q.2.1, 8, .inr (.inl ((fun _ => 0)))) := w_ne hE151 (by omega) he143
  have ha160 : q32 = ad148 45 := (ha130).trans (hg150 45 (by omega)).symm
  have he161 : en149 46 = .inl (q.2.1, 20, .inr (.inl ((fun _ => 0)))) := w_ne hE151 (by omega) he144
  have ha162 : q50 = ad148 46 := (ha132).trans (hg150 46 (by omega)).symm
  have he163 : en149 47 = .inl (q.2.2.1, 328, .inl ((fun _ => 0))) := w_ne hE151 (by omega) he145
  have ha164 : q71 = ad148 47 := (ha134).trans (hg150 47 (by omega)).symm
  have he165 : en149 48 = .inl (q.1, 8, .inl ((fun _ => 0))) := w_ne hE151 (by omega) he146
  have ha166 : q95 = ad148 48 := (ha136).trans (hg150 48 (by omega)).symm
  have he167 : en149 49 = .inl (q.2.1, 8, .inr (.inl ((fun _ => 0)))) := w_ne hE151 (by omega) he147
  have ha168 : q122 = ad148 49 := (hq122).trans (hg150 49 (by omega)).symm
  have he169 : en149 50 = .inl (q.2.1, 20, .inr (.inl ((fun _ => 0)))) := w_self hE151
  refine wr_putFA (ci := 4) (v := .ref q152) (ty := .array .long) (C := RX3) (T := TX3) (N := 21) hx hb hts iRX3 tyX3 tyX3_ok nmX3 hown hw 42 (by omega) ha154 he153 rfl 9 (by decide) (hts (.fieldLink RX3 33 "LibraryDeskModel" "oldRow" "[J") (by decide +kernel)) (fun _ h9 => h9) rfl hin rfl (by decide +kernel) rfl rfl (Nat.le_of_ble_eq_true rfl) dX3_init_67 (fun en171 H locs hE170 hw => ?_)
  have he172 : en171 42 = .inr (4, [.int 0, .ref q5, .ref q17, .ref q32, .ref q50, .int 0, .ref q71, .ref q95, .ref q122, .ref q152, .int 0, .null, .null, .null, .null, .null, .null, .null, .long 0, .int 0, .int 0]) := w_self hE170
  have he173 : en171 43 = .inl (q.2.2.1, 328, .inl ((fun _ => 0))) := w_ne hE170 (by omega) he155
  have he174 : en171 44 = .inl (q.1, 8, .inl ((fun _ => 0))) := w_ne hE170 (by omega) he157
  have he175 : en171 45 = .inl (q.2.1, 8, .inr (.inl ((fun _ => 0)))) := w_ne hE170 (by omega) he159
  have he176 : en171 46 = .inl (q.2.1, 20, .inr (.inl ((fun _ => 0)))) := w_ne hE170 (by omega) he161
  have he177 : en171 47 = .inl (q.2.2.1, 328, .inl ((fun _ => 0))) := w_ne hE170 (by omega) he163
  have he178 : en171 48 = .inl (q.1, 8, .inl ((fun _ => 0))) := w_ne hE170 (by omega) he165
  have he179 : en171 49 = .inl (q.2.1, 8, .inr (.inl ((fun _ => 0)))) := w_ne hE170 (by omega) he167
  have he180 : en171 50 = .inl (q.2.1, 20, .inr (.inl ((fun _ => 0)))) := w_ne hE170 (by omega) he169
  refine lv_aload_n hx hb dX3_init_70 rfl (lv_at hl 0 rfl) ?_
  refine lv_bipush (v := 10) hx hb dX3_init_71 (by decide) ?_
  refine wr_newa (atype := .int) (ty := .int) (i := 10) (N' := 10) (a0 := (10, .inl (fun _ => 0))) hx hb (hts (.arrayClass .int) (by decide +kernel)) rfl hw 0 rfl (fun C h => by cases h) (fun _ => rfl) (by decide) (by decide) (Nat.le_of_ble_eq_true rfl) (Nat.le_of_ble_eq_true rfl) (Nat.le_of_ble_eq_true rfl) dX3_init_73 (fun ad181 en182 H hg183 hE184 hw => ?_)
  obtain ⟨q185, hq185⟩ : ∃ z : Nat, z = ad181 51 := ⟨_, rfl⟩
  rw [← hq185]
  have he186 : en182 42 = .inr (4, [.int 0, .ref q5, .ref q17, .ref q32, .ref q50, .int 0, .ref q71, .ref q95, .ref q122, .ref q152, .int 0, .null, .null, .null, .null, .null, .null, .null, .long 0, .int 0, .int 0]) := w_ne hE184 (by omega) he172
  have ha187 : ad 42 = ad181 42 := (ha154).trans (hg183 42 (by omega)).symm
  have he188 : en182 43 = .inl (q.2.2.1, 328, .inl ((fun _ => 0))) := w_ne hE184 (by omega) he173
  have ha189 : q5 = ad181 43 := (ha156).trans (hg183 43 (by omega)).symm
  have he190 : en182 44 = .inl (q.1, 8, .inl ((fun _ => 0))) := w_ne hE184 (by omega) he174
  have ha191 : q17 = ad181 44 := (ha158).trans (hg183 44 (by omega)).symm
  have he192 : en182 45 = .inl (q.2.1, 8, .inr (.inl ((fun _ => 0)))) := w_ne hE184 (by omega) he175
  have ha193 : q32 = ad181 45 := (ha160).trans (hg183 45 (by omega)).symm
  have he194 : en182 46 = .inl (q.2.1, 20, .inr (.inl ((fun _ => 0)))) := w_ne hE184 (by omega) he176
  have ha195 : q50 = ad181 46 := (ha162).trans (hg183 46 (by omega)).symm
  have he196 : en182 47 = .inl (q.2.2.1, 328, .inl ((fun _ => 0))) := w_ne hE184 (by omega) he177
  have ha197 : q71 = ad181 47 := (ha164).trans (hg183 47 (by omega)).symm
  have he198 : en182 48 = .inl (q.1, 8, .inl ((fun _ => 0))) := w_ne hE184 (by omega) he178
  have ha199 : q95 = ad181 48 := (ha166).trans (hg183 48 (by omega)).symm
  have he200 : en182 49 = .inl (q.2.1, 8, .inr (.inl ((fun _ => 0)))) := w_ne hE184 (by omega) he179
  have ha201 : q122 = ad181 49 := (ha168).trans (hg183 49 (by omega)).symm
  have he202 : en182 50 = .inl (q.2.1, 20, .inr (.inl ((fun _ => 0)))) := w_ne hE184 (by omega) he180
  have ha203 : q152 = ad181 50 := (hq152).trans (hg183 50 (by omega)).symm
  have he204 : en182 51 = .inl (q.1, 10, .inl ((fun _ => 0))) := w_self hE184
  refine wr_putFA (ci := 4) (v := .ref q185) (ty := .array .int) (C := RX3) (T := TX3) (N := 21) hx hb hts iRX3 tyX3 tyX3_ok nmX3 hown hw 42 (by omega) ha187 he186 rfl 11 (by decide) (hts (.fieldLink RX3 36 "LibraryDeskModel" "wanted" "[I") (by decide +kernel)) (fun _ h9 => h9) rfl hin rfl (by decide +kernel) rfl rfl (Nat.le_of_ble_eq_true rfl) dX3_init_75 (fun en206 H locs hE205 hw => ?_)
  have he207 : en206 42 = .inr (4, [.int 0, .ref q5, .ref q17, .ref q32, .ref q50, .int 0, .ref q71, .ref q95, .ref q122, .ref q152, .int 0, .ref q185, .null, .null, .null, .null, .null, .null, .long 0, .int 0, .int 0]) := w_self hE205
  have he208 : en206 43 = .inl (q.2.2.1, 328, .inl ((fun _ => 0))) := w_ne hE205 (by omega) he188
  have he209 : en206 44 = .inl (q.1, 8, .inl ((fun _ => 0))) := w_ne hE205 (by omega) he190
  have he210 : en206 45 = .inl (q.2.1, 8, .inr (.inl ((fun _ => 0)))) := w_ne hE205 (by omega) he192
  have he211 : en206 46 = .inl (q.2.1, 20, .inr (.inl ((fun _ => 0)))) := w_ne hE205 (by omega) he194
  have he212 : en206 47 = .inl (q.2.2.1, 328, .inl ((fun _ => 0))) := w_ne hE205 (by omega) he196
  have he213 : en206 48 = .inl (q.1, 8, .inl ((fun _ => 0))) := w_ne hE205 (by omega) he198
  have he214 : en206 49 = .inl (q.2.1, 8, .inr (.inl ((fun _ => 0)))) := w_ne hE205 (by omega) he200
  have he215 : en206 50 = .inl (q.2.1, 20, .inr (.inl ((fun _ => 0)))) := w_ne hE205 (by omega) he202
  have he216 : en206 51 = .inl (q.1, 10, .inl ((fun _ => 0))) := w_ne hE205 (by omega) he204
  refine lv_aload_n hx hb dX3_init_78 rfl (lv_at hl 0 rfl) ?_
  refine lv_bipush (v := 60) hx hb dX3_init_79 (by decide) ?_
  refine wr_newa (atype := .int) (ty := .int) (i := 60) (N' := 60) (a0 := (60, .inl (fun _ => 0))) hx hb (hts (.arrayClass .int) (by decide +kernel)) rfl hw 0 rfl (fun C h => by cases h) (fun _ => rfl) (by decide) (by decide) (Nat.le_of_ble_eq_true rfl) (Nat.le_of_ble_eq_true rfl) (Nat.le_of_ble_eq_true rfl) dX3_init_81 (fun ad217 en218 H hg219 hE220 hw => ?_)
  obtain ⟨q221, hq221⟩ : ∃ z : Nat, z = ad217 52 := ⟨_, rfl⟩
  rw [← hq221]
  have he222 : en218 42 = .inr (4, [.int 0, .ref q5, .ref q17, .ref q32, .ref q50, .int 0, .ref q71, .ref q95, .ref q122, .ref q152, .int 0, .ref q185, .null, .null, .null, .null, .null, .null, .long 0, .int 0, .int 0]) := w_ne hE220 (by omega) he207
  have ha223 : ad 42 = ad217 42 := (ha187).trans (hg219 42 (by omega)).symm
  have he224 : en218 43 = .inl (q.2.2.1, 328, .inl ((fun _ => 0))) := w_ne hE220 (by omega) he208
  have ha225 : q5 = ad217 43 := (ha189).trans (hg219 43 (by omega)).symm
  have he226 : en218 44 = .inl (q.1, 8, .inl ((fun _ => 0))) := w_ne hE220 (by omega) he209
  have ha227 : q17 = ad217 44 := (ha191).trans (hg219 44 (by omega)).symm
  have he228 : en218 45 = .inl (q.2.1, 8, .inr (.inl ((fun _ => 0)))) := w_ne hE220 (by omega) he210
  have ha229 : q32 = ad217 45 := (ha193).trans (hg219 45 (by omega)).symm
  have he230 : en218 46 = .inl (q.2.1, 20, .inr (.inl ((fun _ => 0)))) := w_ne hE220 (by omega) he211
  have ha231 : q50 = ad217 46 := (ha195).trans (hg219 46 (by omega)).symm
  have he232 : en218 47 = .inl (q.2.2.1, 328, .inl ((fun _ => 0))) := w_ne hE220 (by omega) he212
  have ha233 : q71 = ad217 47 := (ha197).trans (hg219 47 (by omega)).symm
  have he234 : en218 48 = .inl (q.1, 8, .inl ((fun _ => 0))) := w_ne hE220 (by omega) he213
  have ha235 : q95 = ad217 48 := (ha199).trans (hg219 48 (by omega)).symm
  have he236 : en218 49 = .inl (q.2.1, 8, .inr (.inl ((fun _ => 0)))) := w_ne hE220 (by omega) he214
  have ha237 : q122 = ad217 49 := (ha201).trans (hg219 49 (by omega)).symm
  have he238 : en218 50 = .inl (q.2.1, 20, .inr (.inl ((fun _ => 0)))) := w_ne hE220 (by omega) he215
  have ha239 : q152 = ad217 50 := (ha203).trans (hg219 50 (by omega)).symm
  have he240 : en218 51 = .inl (q.1, 10, .inl ((fun _ => 0))) := w_ne hE220 (by omega) he216
  have ha241 : q185 = ad217 51 := (hq185).trans (hg219 51 (by omega)).symm
  have he242 : en218 52 = .inl (q.1, 60, .inl ((fun _ => 0))) := w_self hE220
  refine wr_putFA (ci := 4) (v := .ref q221) (ty := .array .int) (C := RX3) (T := TX3) (N := 21) hx hb hts iRX3 tyX3 tyX3_ok nmX3 hown hw 42 (by omega) ha223 he222 rfl 12 (by decide) (hts (.fieldLink RX3 39 "LibraryDeskModel" "sorts" "[I") (by decide +kernel)) (fun _ h9 => h9) rfl hin rfl (by decide +kernel) rfl rfl (Nat.le_of_ble_eq_true rfl) dX3_init_83 (fun en244 H locs hE243 hw => ?_)
  have he245 : en244 42 = .inr (4, [.int 0, .ref q5, .ref q17, .ref q32, .ref q50, .int 0, .ref q71, .ref q95, .ref q122, .ref q152, .int 0, .ref q185, .ref q221, .null, .null, .null, .null, .null, .long 0, .int 0, .int 0]) := w_self hE243
  have he246 : en244 43 = .inl (q.2.2.1, 328, .inl ((fun _ => 0))) := w_ne hE243 (by omega) he224
  have he247 : en244 44 = .inl (q.1, 8, .inl ((fun _ => 0))) := w_ne hE243 (by omega) he226
  have he248 : en244 45 = .inl (q.2.1, 8, .inr (.inl ((fun _ => 0)))) := w_ne hE243 (by omega) he228
  have he249 : en244 46 = .inl (q.2.1, 20, .inr (.inl ((fun _ => 0)))) := w_ne hE243 (by omega) he230
  have he250 : en244 47 = .inl (q.2.2.1, 328, .inl ((fun _ => 0))) := w_ne hE243 (by omega) he232
  have he251 : en244 48 = .inl (q.1, 8, .inl ((fun _ => 0))) := w_ne hE243 (by omega) he234
  have he252 : en244 49 = .inl (q.2.1, 8, .inr (.inl ((fun _ => 0)))) := w_ne hE243 (by omega) he236
  have he253 : en244 50 = .inl (q.2.1, 20, .inr (.inl ((fun _ => 0)))) := w_ne hE243 (by omega) he238
  have he254 : en244 51 = .inl (q.1, 10, .inl ((fun _ => 0))) := w_ne hE243 (by omega) he240
  have he255 : en244 52 = .inl (q.1, 60, .inl ((fun _ => 0))) := w_ne hE243 (by omega) he242
  refine lv_aload_n hx hb dX3_init_86 rfl (lv_at hl 0 rfl) ?_
  refine lv_bipush (v := 60) hx hb dX3_init_87 (by decide) ?_
  refine wr_newa (atype := .int) (ty := .int) (i := 60) (N' := 60) (a0 := (60, .inl (fun _ => 0))) hx hb (hts (.arrayClass .int) (by decide +kernel)) rfl hw 0 rfl (fun C h => by cases h) (fun _ => rfl) (by decide) (by decide) (Nat.le_of_ble_eq_true rfl) (Nat.le_of_ble_eq_true rfl) (Nat.le_of_ble_eq_true rfl) dX3_init_89 (fun ad256 en257 H hg258 hE259 hw => ?_)
  obtain ⟨q260, hq260⟩ : ∃ z : Nat, z = ad256 53 := ⟨_, rfl⟩
  rw [← hq260]
  have he261 : en257 42 = .inr (4, [.int 0, .ref q5, .ref q17, .ref q32, .ref q50, .int 0, .ref q71, .ref q95, .ref q122, .ref q152, .int 0, .ref q185, .ref q221, .null, .null, .null, .null, .null, .long 0, .int 0, .int 0]) := w_ne hE259 (by omega) he245
  have ha262 : ad 42 = ad256 42 := (ha223).trans (hg258 42 (by omega)).symm
  have he263 : en257 43 = .inl (q.2.2.1, 328, .inl ((fun _ => 0))) := w_ne hE259 (by omega) he246
  have ha264 : q5 = ad256 43 := (ha225).trans (hg258 43 (by omega)).symm
  have he265 : en257 44 = .inl (q.1, 8, .inl ((fun _ => 0))) := w_ne hE259 (by omega) he247
  have ha266 : q17 = ad256 44 := (ha227).trans (hg258 44 (by omega)).symm
  have he267 : en257 45 = .inl (q.2.1, 8, .inr (.inl ((fun _ => 0)))) := w_ne hE259 (by omega) he248
  have ha268 : q32 = ad256 45 := (ha229).trans (hg258 45 (by omega)).symm
  have he269 : en257 46 = .inl (q.2.1, 20, .inr (.inl ((fun _ => 0)))) := w_ne hE259 (by omega) he249
  have ha270 : q50 = ad256 46 := (ha231).trans (hg258 46 (by omega)).symm
  have he271 : en257 47 = .inl (q.2.2.1, 328, .inl ((fun _ => 0))) := w_ne hE259 (by omega) he250
  have ha272 : q71 = ad256 47 := (ha233).trans (hg258 47 (by omega)).symm
  have he273 : en257 48 = .inl (q.1, 8, .inl ((fun _ => 0))) := w_ne hE259 (by omega) he251
  have ha274 : q95 = ad256 48 := (ha235).trans (hg258 48 (by omega)).symm
  have he275 : en257 49 = .inl (q.2.1, 8, .inr (.inl ((fun _ => 0)))) := w_ne hE259 (by omega) he252
  have ha276 : q122 = ad256 49 := (ha237).trans (hg258 49 (by omega)).symm
  have he277 : en257 50 = .inl (q.2.1, 20, .inr (.inl ((fun _ => 0)))) := w_ne hE259 (by omega) he253
  have ha278 : q152 = ad256 50 := (ha239).trans (hg258 50 (by omega)).symm
  have he279 : en257 51 = .inl (q.1, 10, .inl ((fun _ => 0))) := w_ne hE259 (by omega) he254
  have ha280 : q185 = ad256 51 := (ha241).trans (hg258 51 (by omega)).symm
  have he281 : en257 52 = .inl (q.1, 60, .inl ((fun _ => 0))) := w_ne hE259 (by omega) he255
  have ha282 : q221 = ad256 52 := (hq221).trans (hg258 52 (by omega)).symm
  have he283 : en257 53 = .inl (q.1, 60, .inl ((fun _ => 0))) := w_self hE259
  refine wr_putFA (ci := 4) (v := .ref q260) (ty := .array .int) (C := RX3) (T := TX3) (N := 21) hx hb hts iRX3 tyX3 tyX3_ok nmX3 hown hw 42 (by omega) ha262 he261 rfl 13 (by decide) (hts (.fieldLink RX3 42 "LibraryDeskModel" "kinds" "[I") (by decide +kernel)) (fun _ h9 => h9) rfl hin rfl (by decide +kernel) rfl rfl (Nat.le_of_ble_eq_true rfl) dX3_init_91 (fun en285 H locs hE284 hw => ?_)
  have he286 : en285 42 = .inr (4, [.int 0, .ref q5, .ref q17, .ref q32, .ref q50, .int 0, .ref q71, .ref q95, .ref q122, .ref q152, .int 0, .ref q185, .ref q221, .ref q260, .null, .null, .null, .null, .long 0, .int 0, .int 0]) := w_self hE284
  have he287 : en285 43 = .inl (q.2.2.1, 328, .inl ((fun _ => 0))) := w_ne hE284 (by omega) he263
  have he288 : en285 44 = .inl (q.1, 8, .inl ((fun _ => 0))) := w_ne hE284 (by omega) he265
  have he289 : en285 45 = .inl (q.2.1, 8, .inr (.inl ((fun _ => 0)))) := w_ne hE284 (by omega) he267
  have he290 : en285 46 = .inl (q.2.1, 20, .inr (.inl ((fun _ => 0)))) := w_ne hE284 (by omega) he269
  have he291 : en285 47 = .inl (q.2.2.1, 328, .inl ((fun _ => 0))) := w_ne hE284 (by omega) he271
  have he292 : en285 48 = .inl (q.1, 8, .inl ((fun _ => 0))) := w_ne hE284 (by omega) he273
  have he293 : en285 49 = .inl (q.2.1, 8, .inr (.inl ((fun _ => 0)))) := w_ne hE284 (by omega) he275
  have he294 : en285 50 = .inl (q.2.1, 20, .inr (.inl ((fun _ => 0)))) := w_ne hE284 (by omega) he277
  have he295 : en285 51 = .inl (q.1, 10, .inl ((fun _ => 0))) := w_ne hE284 (by omega) he279
  have he296 : en285 52 = .inl (q.1, 60, .inl ((fun _ => 0))) := w_ne hE284 (by omega) he281
  have he297 : en285 53 = .inl (q.1, 60, .inl ((fun _ => 0))) := w_ne hE284 (by omega) he283
  refine lv_aload_n hx hb dX3_init_94 rfl (lv_at hl 0 rfl) ?_
  refine lv_bipush (v := 10) hx hb dX3_init_95 (by decide) ?_
  refine wr_newa (atype := .int) (ty := .int) (i := 10) (N' := 10) (a0 := (10, .inl (fun _ => 0))) hx hb (hts (.arrayClass .int) (by decide +kernel)) rfl hw 0 rfl (fun C h => by cases h) (fun _ => rfl) (by decide) (by decide) (Nat.le_of_ble_eq_true rfl) (Nat.le_of_ble_eq_true rfl) (Nat.le_of_ble_eq_true rfl) dX3_init_97 (fun ad298 en299 H hg300 hE301 hw => ?_)
  obtain ⟨q302, hq302⟩ : ∃ z : Nat, z = ad298 54 := ⟨_, rfl⟩
  rw [← hq302]
  have he303 : en299 42 = .inr (4, [.int 0, .ref q5, .ref q17, .ref q32, .ref q50, .int 0, .ref q71, .ref q95, .ref q122, .ref q152, .int 0, .ref q185, .ref q221, .ref q260, .null, .null, .null, .null, .long 0, .int 0, .int 0]) := w_ne hE301 (by omega) he286
  have ha304 : ad 42 = ad298 42 := (ha262).trans (hg300 42 (by omega)).symm
  have he305 : en299 43 = .inl (q.2.2.1, 328, .inl ((fun _ => 0))) := w_ne hE301 (by omega) he287
  have ha306 : q5 = ad298 43 := (ha264).trans (hg300 43 (by omega)).symm
  have he307 : en299 44 = .inl (q.1, 8, .inl ((fun _ => 0))) := w_ne hE301 (by omega) he288
  have ha308 : q17 = ad298 44 := (ha266).trans (hg300 44 (by omega)).symm
  have he309 : en299 45 = .inl (q.2.1, 8, .inr (.inl ((fun _ => 0)))) := w_ne hE301 (by omega) he289
  have ha310 : q32 = ad298 45 := (ha268).trans (hg300 45 (by omega)).symm
  have he311 : en299 46 = .inl (q.2.1, 20, .inr (.inl ((fun _ => 0)))) := w_ne hE301 (by omega) he290
  have ha312 : q50 = ad298 46 := (ha270).trans (hg300 46 (by omega)).symm
  have he313 : en299 47 = .inl (q.2.2.1, 328, .inl ((fun _ => 0))) := w_ne hE301 (by omega) he291
  have ha314 : q71 = ad298 47 := (ha272).trans (hg300 47 (by omega)).symm
  have he315 : en299 48 = .inl (q.1, 8, .inl ((fun _ => 0))) := w_ne hE301 (by omega) he292
  have ha316 : q95 = ad298 48 := (ha274).trans (hg300 48 (by omega)).symm
  have he317 : en299 49 = .inl (q.2.1, 8, .inr (.inl ((fun _ => 0)))) := w_ne hE301 (by omega) he293
  have ha318 : q122 = ad298 49 := (ha276).trans (hg300 49 (by omega)).symm
  have he319 : en299 50 = .inl (q.2.1, 20, .inr (.inl ((fun _ => 0)))) := w_ne hE301 (by omega) he294
  have ha320 : q152 = ad298 50 := (ha278).trans (hg300 50 (by omega)).symm
  have he321 : en299 51 = .inl (q.1, 10, .inl ((fun _ => 0))) := w_ne hE301 (by omega) he295
  have ha322 : q185 = ad298 51 := (ha280).trans (hg300 51 (by omega)).symm
  have he323 : en299 52 = .inl (q.1, 60, .inl ((fun _ => 0))) := w_ne hE301 (by omega) he296
  have ha324 : q221 = ad298 52 := (ha282).trans (hg300 52 (by omega)).symm
  have he325 : en299 53 = .inl (q.1, 60, .inl ((fun _ => 0))) := w_ne hE301 (by omega) he297
  have ha326 : q260 = ad298 53 := (hq260).trans (hg300 53 (by omega)).symm
  have he327 : en299 54 = .inl (q.1, 10, .inl ((fun _ => 0))) := w_self hE301
  refine wr_putFA (ci := 4) (v := .ref q302) (ty := .array .int) (C := RX3) (T := TX3) (N := 21) hx hb hts iRX3 tyX3 tyX3_ok nmX3 hown hw 42 (by omega) ha304 he303 rfl 14 (by decide) (hts (.fieldLink RX3 45 "LibraryDeskModel" "acts" "[I") (by decide +kernel)) (fun _ h9 => h9) rfl hin rfl (by decide +kernel) rfl rfl (Nat.le_of_ble_eq_true rfl) dX3_init_99 (fun en329 H locs hE328 hw => ?_)
  have he330 : en329 42 = .inr (4, [.int 0, .ref q5, .ref q17, .ref q32, .ref q50, .int 0, .ref q71, .ref q95, .ref q122, .ref q152, .int 0, .ref q185, .ref q221, .ref q260, .ref q302, .null, .null, .null, .long 0, .int 0, .int 0]) := w_self hE328
  have he331 : en329 43 = .inl (q.2.2.1, 328, .inl ((fun _ => 0))) := w_ne hE328 (by omega) he305
  have he332 : en329 44 = .inl (q.1, 8, .inl ((fun _ => 0))) := w_ne hE328 (by omega) he307
  have he333 : en329 45 = .inl (q.2.1, 8, .inr (.inl ((fun _ => 0)))) := w_ne hE328 (by omega) he309
  have he334 : en329 46 = .inl (q.2.1, 20, .inr (.inl ((fun _ => 0)))) := w_ne hE328 (by omega) he311
  have he335 : en329 47 = .inl (q.2.2.1, 328, .inl ((fun _ => 0))) := w_ne hE328 (by omega) he313
  have he336 : en329 48 = .inl (q.1, 8, .inl ((fun _ => 0))) := w_ne hE328 (by omega) he315
  have he337 : en329 49 = .inl (q.2.1, 8, .inr (.inl ((fun _ => 0)))) := w_ne hE328 (by omega) he317
  have he338 : en329 50 = .inl (q.2.1, 20, .inr (.inl ((fun _ => 0)))) := w_ne hE328 (by omega) he319
  have he339 : en329 51 = .inl (q.1, 10, .inl ((fun _ => 0))) := w_ne hE328 (by omega) he321
  have he340 : en329 52 = .inl (q.1, 60, .inl ((fun _ => 0))) := w_ne hE328 (by omega) he323
  have he341 : en329 53 = .inl (q.1, 60, .inl ((fun _ => 0))) := w_ne hE328 (by omega) he325
  have he342 : en329 54 = .inl (q.1, 10, .inl ((fun _ => 0))) := w_ne hE328 (by omega) he327
  refine lv_aload_n hx hb dX3_init_102 rfl (lv_at hl 0 rfl) ?_
  refine lv_bipush (v := 10) hx hb dX3_init_103 (by decide) ?_
  refine wr_newa (atype := .int) (ty := .int) (i := 10) (N' := 10) (a0 := (10, .inl (fun _ => 0))) hx hb (hts (.arrayClass .int) (by decide +kernel)) rfl hw 0 rfl (fun C h => by cases h) (fun _ => rfl) (by decide) (by decide) (Nat.le_of_ble_eq_true rfl) (Nat.le_of_ble_eq_true rfl) (Nat.le_of_ble_eq_true rfl) dX3_init_105 (fun ad343 en344 H hg345 hE346 hw => ?_)
  obtain ⟨q347, hq347⟩ : ∃ z : Nat, z = ad343 55 := ⟨_, rfl⟩
  rw [← hq347]
  have he348 : en344 42 = .inr (4, [.int 0, .ref q5, .ref q17, .ref q32, .ref q50, .int 0, .ref q71, .ref q95, .ref q122, .ref q152, .int 0, .ref q185, .ref q221, .ref q260, .ref q302, .null, .null, .null, .long 0, .int 0, .int 0]) := w_ne hE346 (by omega) he330
  have ha349 : ad 42 = ad343 42 := (ha304).trans (hg345 42 (by omega)).symm
  have he350 : en344 43 = .inl (q.2.2.1, 328, .inl ((fun _ => 0))) := w_ne hE346 (by omega) he331
  have ha351 : q5 = ad343 43 := (ha306).trans (hg345 43 (by omega)).symm
  have he352 : en344 44 = .inl (q.1, 8, .inl ((fun _ => 0))) := w_ne hE346 (by omega) he332
  have ha353 : q17 = ad343 44 := (ha308).trans (hg345 44 (by omega)).symm
  have he354 : en344 45 = .inl (q.2.1, 8, .inr (.inl ((fun _ => 0)))) := w_ne hE346 (by omega) he333
  have ha355 : q32 = ad343 45 := (ha310).trans (hg345 45 (by omega)).symm
  have he356 : en344 46 = .inl (q.2.1, 20, .inr (.inl ((fun _ => 0)))) := w_ne hE346 (by omega) he334
  have ha357 : q50 = ad343 46 := (ha312).trans (hg345 46 (by omega)).symm
  have he358 : en344 47 = .inl (q.2.2.1, 328, .inl ((fun _ => 0))) := w_ne hE346 (by omega) he335
  have ha359 : q71 = ad343 47 := (ha314).trans (hg345 47 (by omega)).symm
  have he360 : en344 48 = .inl (q.1, 8, .inl ((fun _ => 0))) := w_ne hE346 (by omega) he336
  have ha361 : q95 = ad343 48 := (ha316).trans (hg345 48 (by omega)).symm
  have he362 : en344 49 = .inl (q.2.1, 8, .inr (.inl ((fun _ => 0)))) := w_ne hE346 (by omega) he337
  have ha363 : q122 = ad343 49 := (ha318).trans (hg345 49 (by omega)).symm
  have he364 : en344 50 = .inl (q.2.1, 20, .inr (.inl ((fun _ => 0)))) := w_ne hE346 (by omega) he338
  have ha365 : q152 = ad343 50 := (ha320).trans (hg345 50 (by omega)).symm
  have he366 : en344 51 = .inl (q.1, 10, .inl ((fun _ => 0))) := w_ne hE346 (by omega) he339
  have ha367 : q185 = ad343 51 := (ha322).trans (hg345 51 (by omega)).symm
  have he368 : en344 52 = .inl (q.1, 60, .inl ((fun _ => 0))) := w_ne hE346 (by omega) he340
  have ha369 : q221 = ad343 52 := (ha324).trans (hg345 52 (by omega)).symm
  have he370 : en344 53 = .inl (q.1, 60, .inl ((fun _ => 0))) := w_ne hE346 (by omega) he341
  have ha371 : q260 = ad343 53 := (ha326).trans (hg345 53 (by omega)).symm
  have he372 : en344 54 = .inl (q.1, 10, .inl ((fun _ => 0))) := w_ne hE346 (by omega) he342
  have ha373 : q302 = ad343 54 := (hq302).trans (hg345 54 (by omega)).symm
  have he374 : en344 55 = .inl (q.1, 10, .inl ((fun _ => 0))) := w_self hE346
  refine wr_putFA (ci := 4) (v := .ref q347) (ty := .array .int) (C := RX3) (T := TX3) (N := 21) hx hb hts iRX3 tyX3 tyX3_ok nmX3 hown hw 42 (by omega) ha349 he348 rfl 15 (by decide) (hts (.fieldLink RX3 48 "LibraryDeskModel" "failsAt" "[I") (by decide +kernel)) (fun _ h9 => h9) rfl hin rfl (by decide +kernel) rfl rfl (Nat.le_of_ble_eq_true rfl) dX3_init_107 (fun en376 H locs hE375 hw => ?_)
  have he377 : en376 42 = .inr (4, [.int 0, .ref q5, .ref q17, .ref q32, .ref q50, .int 0, .ref q71, .ref q95, .ref q122, .ref q152, .int 0, .ref q185, .ref q221, .ref q260, .ref q302, .ref q347, .null, .null, .long 0, .int 0, .int 0]) := w_self hE375
  have he378 : en376 43 = .inl (q.2.2.1, 328, .inl ((fun _ => 0))) := w_ne hE375 (by omega) he350
  have he379 : en376 44 = .inl (q.1, 8, .inl ((fun _ => 0))) := w_ne hE375 (by omega) he352
  have he380 : en376 45 = .inl (q.2.1, 8, .inr (.inl ((fun _ => 0)))) := w_ne hE375 (by omega) he354
  have he381 : en376 46 = .inl (q.2.1, 20, .inr (.inl ((fun _ => 0)))) := w_ne hE375 (by omega) he356
  have he382 : en376 47 = .inl (q.2.2.1, 328, .inl ((fun _ => 0))) := w_ne hE375 (by omega) he358
  have he383 : en376 48 = .inl (q.1, 8, .inl ((fun _ => 0))) := w_ne hE375 (by omega) he360
  have he384 : en376 49 = .inl (q.2.1, 8, .inr (.inl ((fun _ => 0)))) := w_ne hE375 (by omega) he362
  have he385 : en376 50 = .inl (q.2.1, 20, .inr (.inl ((fun _ => 0)))) := w_ne hE375 (by omega) he364
  have he386 : en376 51 = .inl (q.1, 10, .inl ((fun _ => 0))) := w_ne hE375 (by omega) he366
  have he387 : en376 52 = .inl (q.1, 60, .inl ((fun _ => 0))) := w_ne hE375 (by omega) he368
  have he388 : en376 53 = .inl (q.1, 60, .inl ((fun _ => 0))) := w_ne hE375 (by omega) he370
  have he389 : en376 54 = .inl (q.1, 10, .inl ((fun _ => 0))) := w_ne hE375 (by omega) he372
  have he390 : en376 55 = .inl (q.1, 10, .inl ((fun _ => 0))) := w_ne hE375 (by omega) he374
  refine lv_aload_n hx hb dX3_init_110 rfl (lv_at hl 0 rfl) ?_
  refine lv_bipush (v := 10) hx hb dX3_init_111 (by decide) ?_
  refine wr_newa (atype := .int) (ty := .int) (i := 10) (N' := 10) (a0 := (10, .inl (fun _ => 0))) hx hb (hts (.arrayClass .int) (by decide +kernel)) rfl hw 0 rfl (fun C h => by cases h) (fun _ => rfl) (by decide) (by decide) (Nat.le_of_ble_eq_true rfl) (Nat.le_of_ble_eq_true rfl) (Nat.le_of_ble_eq_true rfl) dX3_init_113 (fun ad391 en392 H hg393 hE394 hw => ?_)
  obtain ⟨q395, hq395⟩ : ∃ z : Nat, z = ad391 56 := ⟨_, rfl⟩
  rw [← hq395]
  have he396 : en392 42 = .inr (4, [.int 0, .ref q5, .ref q17, .ref q32, .ref q50, .int 0, .ref q71, .ref q95, .ref q122, .ref q152, .int 0, .ref q185, .ref q221, .ref q260, .ref q302, .ref q347, .null, .null, .long 0, .int 0, .int 0]) := w_ne hE394 (by omega) he377
  have ha397 : ad 42 = ad391 42 := (ha349).trans (hg393 42 (by omega)).symm
  have he398 : en392 43 = .inl (q.2.2.1, 328, .inl ((fun _ => 0))) := w_ne hE394 (by omega) he378
  have ha399 : q5 = ad391 43 := (ha351).trans (hg393 43 (by omega)).symm
  have he400 : en392 44 = .inl (q.1, 8, .inl ((fun _ => 0))) := w_ne hE394 (by omega) he379
  have ha401 : q17 = ad391 44 := (ha353).trans (hg393 44 (by omega)).symm
  have he402 : en392 45 = .inl (q.2.1, 8, .inr (.inl ((fun _ => 0)))) := w_ne hE394 (by omega) he380
  have ha403 : q32 = ad391 45 := (ha355).trans (hg393 45 (by omega)).symm
  have he404 : en392 46 = .inl (q.2.1, 20, .inr (.inl ((fun _ => 0)))) := w_ne hE394 (by omega) he381
  have ha405 : q50 = ad391 46 := (ha357).trans (hg393 46 (by omega)).symm
  have he406 : en392 47 = .inl (q.2.2.1, 328, .inl ((fun _ => 0))) := w_ne hE394 (by omega) he382
  have ha407 : q71 = ad391 47 := (ha359).trans (hg393 47 (by omega)).symm
  have he408 : en392 48 = .inl (q.1, 8, .inl ((fun _ => 0))) := w_ne hE394 (by omega) he383
  have ha409 : q95 = ad391 48 := (ha361).trans (hg393 48 (by omega)).symm
  have he410 : en392 49 = .inl (q.2.1, 8, .inr (.inl ((fun _ => 0)))) := w_ne hE394 (by omega) he384
  have ha411 : q122 = ad391 49 := (ha363).trans (hg393 49 (by omega)).symm
  have he412 : en392 50 = .inl (q.2.1, 20, .inr (.inl ((fun _ => 0)))) := w_ne hE394 (by omega) he385
  have ha413 : q152 = ad391 50 := (ha365).trans (hg393 50 (by omega)).symm
  have he414 : en392 51 = .inl (q.1, 10, .inl ((fun _ => 0))) := w_ne hE394 (by omega) he386
  have ha415 : q185 = ad391 51 := (ha367).trans (hg393 51 (by omega)).symm
  have he416 : en392 52 = .inl (q.1, 60, .inl ((fun _ => 0))) := w_ne hE394 (by omega) he387
  have ha417 : q221 = ad391 52 := (ha369).trans (hg393 52 (by omega)).symm
  have he418 : en392 53 = .inl (q.1, 60, .inl ((fun _ => 0))) := w_ne hE394 (by omega) he388
  have ha419 : q260 = ad391 53 := (ha371).trans (hg393 53 (by omega)).symm
  have he420 : en392 54 = .inl (q.1, 10, .inl ((fun _ => 0))) := w_ne hE394 (by omega) he389
  have ha421 : q302 = ad391 54 := (ha373).trans (hg393 54 (by omega)).symm
  have he422 : en392 55 = .inl (q.1, 10, .inl ((fun _ => 0))) := w_ne hE394 (by omega) he390
  have ha423 : q347 = ad391 55 := (hq347).trans (hg393 55 (by omega)).symm
  have he424 : en392 56 = .inl (q.1, 10, .inl ((fun _ => 0))) := w_self hE394
  refine wr_putFA (ci := 4) (v := .ref q395) (ty := .array .int) (C := RX3) (T := TX3) (N := 21) hx hb hts iRX3 tyX3 tyX3_ok nmX3 hown hw 42 (by omega) ha397 he396 rfl 16 (by decide) (hts (.fieldLink RX3 51 "LibraryDeskModel" "failsWith" "[I") (by decide +kernel)) (fun _ h9 => h9) rfl hin rfl (by decide +kernel) rfl rfl (Nat.le_of_ble_eq_true rfl) dX3_init_115 (fun en426 H locs hE425 hw => ?_)
  have he427 : en426 42 = .inr (4, [.int 0, .ref q5, .ref q17, .ref q32, .ref q50, .int 0, .ref q71, .ref q95, .ref q122, .ref q152, .int 0, .ref q185, .ref q221, .ref q260, .ref q302, .ref q347, .ref q395, .null, .long 0, .int 0, .int 0]) := w_self hE425
  have he428 : en426 43 = .inl (q.2.2.1, 328, .inl ((fun _ => 0))) := w_ne hE425 (by omega) he398
  have he429 : en426 44 = .inl (q.1, 8, .inl ((fun _ => 0))) := w_ne hE425 (by omega) he400
  have he430 : en426 45 = .inl (q.2.1, 8, .inr (.inl ((fun _ => 0)))) := w_ne hE425 (by omega) he402
  have he431 : en426 46 = .inl (q.2.1, 20, .inr (.inl ((fun _ => 0)))) := w_ne hE425 (by omega) he404
  have he432 : en426 47 = .inl (q.2.2.1, 328, .inl ((fun _ => 0))) := w_ne hE425 (by omega) he406
  have he433 : en426 48 = .inl (q.1, 8, .inl ((fun _ => 0))) := w_ne hE425 (by omega) he408
  have he434 : en426 49 = .inl (q.2.1, 8, .inr (.inl ((fun _ => 0)))) := w_ne hE425 (by omega) he410
  have he435 : en426 50 = .inl (q.2.1, 20, .inr (.inl ((fun _ => 0)))) := w_ne hE425 (by omega) he412
  have he436 : en426 51 = .inl (q.1, 10, .inl ((fun _ => 0))) := w_ne hE425 (by omega) he414
  have he437 : en426 52 = .inl (q.1, 60, .inl ((fun _ => 0))) := w_ne hE425 (by omega) he416
  have he438 : en426 53 = .inl (q.1, 60, .inl ((fun _ => 0))) := w_ne hE425 (by omega) he418
  have he439 : en426 54 = .inl (q.1, 10, .inl ((fun _ => 0))) := w_ne hE425 (by omega) he420
  have he440 : en426 55 = .inl (q.1, 10, .inl ((fun _ => 0))) := w_ne hE425 (by omega) he422
  have he441 : en426 56 = .inl (q.1, 10, .inl ((fun _ => 0))) := w_ne hE425 (by omega) he424
  refine lv_aload_n hx hb dX3_init_118 rfl (lv_at hl 0 rfl) ?_
  refine lv_bipush (v := 7) hx hb dX3_init_119 (by decide) ?_
  refine wr_newa (atype := .int) (ty := .int) (i := 7) (N' := 7) (a0 := (7, .inl (fun _ => 0))) hx hb (hts (.arrayClass .int) (by decide +kernel)) rfl hw 0 rfl (fun C h => by cases h) (fun _ => rfl) (by decide) (by decide) (Nat.le_of_ble_eq_true rfl) (Nat.le_of_ble_eq_true rfl) (Nat.le_of_ble_eq_true rfl) dX3_init_121 (fun ad442 en443 H hg444 hE445 hw => ?_)
  obtain ⟨q446, hq446⟩ : ∃ z : Nat, z = ad442 57 := ⟨_, rfl⟩
  rw [← hq446]
  have he447 : en443 42 = .inr (4, [.int 0, .ref q5, .ref q17, .ref q32, .ref q50, .int 0, .ref q71, .ref q95, .ref q122, .ref q152, .int 0, .ref q185, .ref q221, .ref q260, .ref q302, .ref q347, .ref q395, .null, .long 0, .int 0, .int 0]) := w_ne hE445 (by omega) he427
  have ha448 : ad 42 = ad442 42 := (ha397).trans (hg444 42 (by omega)).symm
  have he449 : en443 43 = .inl (q.2.2.1, 328, .inl ((fun _ => 0))) := w_ne hE445 (by omega) he428
  have ha450 : q5 = ad442 43 := (ha399).trans (hg444 43 (by omega)).symm
  have he451 : en443 44 = .inl (q.1, 8, .inl ((fun _ => 0))) := w_ne hE445 (by omega) he429
  have ha452 : q17 = ad442 44 := (ha401).trans (hg444 44 (by omega)).symm
  have he453 : en443 45 = .inl (q.2.1, 8, .inr (.inl ((fun _ => 0)))) := w_ne hE445 (by omega) he430
  have ha454 : q32 = ad442 45 := (ha403).trans (hg444 45 (by omega)).symm
  have he455 : en443 46 = .inl (q.2.1, 20, .inr (.inl ((fun _ => 0)))) := w_ne hE445 (by omega) he431
  have ha456 : q50 = ad442 46 := (ha405).trans (hg444 46 (by omega)).symm
  have he457 : en443 47 = .inl (q.2.2.1, 328, .inl ((fun _ => 0))) := w_ne hE445 (by omega) he432
  have ha458 : q71 = ad442 47 := (ha407).trans (hg444 47 (by omega)).symm
  have he459 : en443 48 = .inl (q.1, 8, .inl ((fun _ => 0))) := w_ne hE445 (by omega) he433
  have ha460 : q95 = ad442 48 := (ha409).trans (hg444 48 (by omega)).symm
  have he461 : en443 49 = .inl (q.2.1, 8, .inr (.inl ((fun _ => 0)))) := w_ne hE445 (by omega) he434
  have ha462 : q122 = ad442 49 := (ha411).trans (hg444 49 (by omega)).symm
  have he463 : en443 50 = .inl (q.2.1, 20, .inr (.inl ((fun _ => 0)))) := w_ne hE445 (by omega) he435
  have ha464 : q152 = ad442 50 := (ha413).trans (hg444 50 (by omega)).symm
  have he465 : en443 51 = .inl (q.1, 10, .inl ((fun _ => 0))) := w_ne hE445 (by omega) he436
  have ha466 : q185 = ad442 51 := (ha415).trans (hg444 51 (by omega)).symm
  have he467 : en443 52 = .inl (q.1, 60, .inl ((fun _ => 0))) := w_ne hE445 (by omega) he437
  have ha468 : q221 = ad442 52 := (ha417).trans (hg444 52 (by omega)).symm
  have he469 : en443 53 = .inl (q.1, 60, .inl ((fun _ => 0))) := w_ne hE445 (by omega) he438
  have ha470 : q260 = ad442 53 := (ha419).trans (hg444 53 (by omega)).symm
  have he471 : en443 54 = .inl (q.1, 10, .inl ((fun _ => 0))) := w_ne hE445 (by omega) he439
  have ha472 : q302 = ad442 54 := (ha421).trans (hg444 54 (by omega)).symm
  have he473 : en443 55 = .inl (q.1, 10, .inl ((fun _ => 0))) := w_ne hE445 (by omega) he440
  have ha474 : q347 = ad442 55 := (ha423).trans (hg444 55 (by omega)).symm
  have he475 : en443 56 = .inl (q.1, 10, .inl ((fun _ => 0))) := w_ne hE445 (by omega) he441
  have ha476 : q395 = ad442 56 := (hq395).trans (hg444 56 (by omega)).symm
  have he477 : en443 57 = .inl (q.1, 7, .inl ((fun _ => 0))) := w_self hE445
  refine wr_putFA (ci := 4) (v := .ref q446) (ty := .array .int) (C := RX3) (T := TX3) (N := 21) hx hb hts iRX3 tyX3 tyX3_ok nmX3 hown hw 42 (by omega) ha448 he447 rfl 17 (by decide) (hts (.fieldLink RX3 54 "LibraryDeskModel" "told" "[I") (by decide +kernel)) (fun _ h9 => h9) rfl hin rfl (by decide +kernel) rfl rfl (Nat.le_of_ble_eq_true rfl) dX3_init_123 (fun en479 H locs hE478 hw => ?_)
  have he480 : en479 42 = .inr (4, [.int 0, .ref q5, .ref q17, .ref q32, .ref q50, .int 0, .ref q71, .ref q95, .ref q122, .ref q152, .int 0, .ref q185, .ref q221, .ref q260, .ref q302, .ref q347, .ref q395, .ref q446, .long 0, .int 0, .int 0]) := w_self hE478
  have he481 : en479 43 = .inl (q.2.2.1, 328, .inl ((fun _ => 0))) := w_ne hE478 (by omega) he449
  have he482 : en479 44 = .inl (q.1, 8, .inl ((fun _ => 0))) := w_ne hE478 (by omega) he451
  have he483 : en479 45 = .inl (q.2.1, 8, .inr (.inl ((fun _ => 0)))) := w_ne hE478 (by omega) he453
  have he484 : en479 46 = .inl (q.2.1, 20, .inr (.inl ((fun _ => 0)))) := w_ne hE478 (by omega) he455
  have he485 : en479 47 = .inl (q.2.2.1, 328, .inl ((fun _ => 0))) := w_ne hE478 (by omega) he457
  have he486 : en479 48 = .inl (q.1, 8, .inl ((fun _ => 0))) := w_ne hE478 (by omega) he459
  have he487 : en479 49 = .inl (q.2.1, 8, .inr (.inl ((fun _ => 0)))) := w_ne hE478 (by omega) he461
  have he488 : en479 50 = .inl (q.2.1, 20, .inr (.inl ((fun _ => 0)))) := w_ne hE478 (by omega) he463
  have he489 : en479 51 = .inl (q.1, 10, .inl ((fun _ => 0))) := w_ne hE478 (by omega) he465
  have he490 : en479 52 = .inl (q.1, 60, .inl ((fun _ => 0))) := w_ne hE478 (by omega) he467
  have he491 : en479 53 = .inl (q.1, 60, .inl ((fun _ => 0))) := w_ne hE478 (by omega) he469
  have he492 : en479 54 = .inl (q.1, 10, .inl ((fun _ => 0))) := w_ne hE478 (by omega) he471
  have he493 : en479 55 = .inl (q.1, 10, .inl ((fun _ => 0))) := w_ne hE478 (by omega) he473
  have he494 : en479 56 = .inl (q.1, 10, .inl ((fun _ => 0))) := w_ne hE478 (by omega) he475
  have he495 : en479 57 = .inl (q.1, 7, .inl ((fun _ => 0))) := w_ne hE478 (by omega) he477
  refine lv_iconst (v := 0) hx hb dX3_init_126 (by decide) ?_
  refine lv_istore_n (lv' := [(1, .int 0), (0, .ref (ad 42))]) hx hb dX3_init_127 rfl hl (by decide) rfl (fun ls hl => ?_)
  have hadF : ∀ j, j < 43 → ad442 j = ad j := fun j hj => (hg444 j (by omega)).trans ((hg393 j (by omega)).trans ((hg345 j (by omega)).trans ((hg300 j (by omega)).trans ((hg258 j (by omega)).trans ((hg219 j (by omega)).trans ((hg183 j (by omega)).trans ((hg150 j (by omega)).trans ((hg120 j (by omega)).trans ((hg93 j (by omega)).trans ((hg69 j (by omega)).trans ((hg48 j (by omega)).trans ((hg30 j (by omega)).trans ((hg15 j (by omega)).trans (hg3 j (by omega)))))))))))))))
  have heF : en479 42 = .inr (4, [.int 0, .ref (ad442 43), .ref (ad442 44), .ref (ad442 45), .ref (ad442 46), .int 0, .ref (ad442 47), .ref (ad442 48), .ref (ad442 49), .ref (ad442 50), .int 0, .ref (ad442 51), .ref (ad442 52), .ref (ad442 53), .ref (ad442 54), .ref (ad442 55), .ref (ad442 56), .ref (ad442 57), .long 0, .int 0, .int 0]) := by
    rw [← ha450, ← ha452, ← ha454, ← ha456, ← ha458, ← ha460, ← ha462, ← ha464, ← ha466, ← ha468, ← ha470, ← ha472, ← ha474, ← ha476, ← hq446]
    exact he480
  have key : ∀ (d i : Nat), i + d = 10 → ∀ (wf ff : Nat → Int32) (en1 : Nat → va_E), (∀ j, j < i → wf j = -1) → (∀ j, j < i → ff j = -1) → en1 42 = .inr (4, [.int 0, .ref (ad442 43), .ref (ad442 44), .ref (ad442 45), .ref (ad442 46), .int 0, .ref (ad442 47), .ref (ad442 48), .ref (ad442 49), .ref (ad442 50), .int 0, .ref (ad442 51), .ref (ad442 52), .ref (ad442 53), .ref (ad442 54), .ref (ad442 55), .ref (ad442 56), .ref (ad442 57), .long 0, .int 0, .int 0]) → en1 43 = .inl (q.2.2.1, 328, .inl ((fun _ => 0))) → en1 44 = .inl (q.1, 8, .inl ((fun _ => 0))) → en1 45 = .inl (q.2.1, 8, .inr (.inl ((fun _ => 0)))) → en1 46 = .inl (q.2.1, 20, .inr (.inl ((fun _ => 0)))) → en1 47 = .inl (q.2.2.1, 328, .inl ((fun _ => 0))) → en1 48 = .inl (q.1, 8, .inl ((fun _ => 0))) → en1 49 = .inl (q.2.1, 8, .inr (.inl ((fun _ => 0)))) → en1 50 = .inl (q.2.1, 20, .inr (.inl ((fun _ => 0)))) → en1 51 = .inl (q.1, 10, .inl wf) → en1 52 = .inl (q.1, 60, .inl ((fun _ => 0))) → en1 53 = .inl (q.1, 60, .inl ((fun _ => 0))) → en1 54 = .inl (q.1, 10, .inl ((fun _ => 0))) → en1 55 = .inl (q.1, 10, .inl ff) → en1 56 = .inl (q.1, 10, .inl ((fun _ => 0))) → en1 57 = .inl (q.1, 7, .inl ((fun _ => 0))) → (∀ j, j < 42 → en1 j = en j) → ∀ (H : Heap) (locs : List Loc), wk (dC, dI) vwCl (wT q) ad442 en1 58 AA s H locs → ∀ ls : Array Slot, lv_has ls 2 [(1, .int (nI i)), (0, .ref (ad 42))] → W p l e (headSpec wsX3_init ({ frames := 1, cells := 15, slots := 895, locals := 12 })).room s m ([.ref (ad 42)].toArray) below meth c H locs 15 895 (MQ below (va_Qv (fun u => ModAt q u.1 u.2 0 A0 (fun _ => P0) (fun _ => 0) ∧ (∀ j, j < 42 + 1 → u.1 j = ad j) ∧ ∀ j, j < 42 → u.2 j = en j) (wG (dC, dI) vwCl (wT q) 58 AA) AA) ([.ref (ad 42)].toArray) s 15 895 AA) (F0 m 128 ls []) := by
    intro d
    induction d with
    | zero =>
      intro i hi wf ff en1 hwf hff gO gH gM gT gR goH goM goT goR gw gs gk ga gf gx gt hfr H locs hw ls hl
      refine lv_iload_n hx hb dX3_init_128 rfl (lv_at hl 0 rfl) ?_
      refine lv_bipush (v := 10) hx hb dX3_init_129 (by decide) ?_
      refine lv_icmp_ge (tgt := 154) hx hb dX3_init_131 (by decide) (fun c131 => ?_) (fun c131 => ?_)
      · refine we_g hx hb hr hlocks hw ?_ dX3_init_154
        refine ⟨⟨A0, 0, 0, 0, Aok_0, gO, ⟨_, _, _, _, gH, gM, gT, gR, RM_0⟩, ⟨_, _, _, _, goH, goM, goT, goR, RM_0⟩, ⟨_, _, _, _, _, _, gw, gs, gk, ga, gf, gx, fun c hc => ⟨hwf c (by omega), rfl, hff c (by omega), rfl, fun i hi => absurd hi (Nat.not_lt_zero i)⟩⟩, ⟨_, gt, fun i hi => rfl⟩⟩, hadF, fun j hj => hfr j hj⟩
      · exact absurd (nI_le (a := 10) (by omega) (by omega)) c131
    | succ d ih =>
      intro i hi wf ff en1 hwf hff gO gH gM gT gR goH goM goT goR gw gs gk ga gf gx gt hfr H locs hw ls hl
      refine lv_iload_n hx hb dX3_init_128 rfl (lv_at hl 0 rfl) ?_
      refine lv_bipush (v := 10) hx hb dX3_init_129 (by decide) ?_
      refine lv_icmp_ge (tgt := 154) hx hb dX3_init_131 (by decide) (fun c131 => ?_) (fun c131 => ?_)
      · exact absurd ((nI_leI (a := 10) (by omega) (by omega)).mp c131) (by omega)
      · refine lv_aload_n hx hb dX3_init_134 rfl (lv_at hl 1 rfl) ?_
        refine wr_getA (ci := 4) (C := RX3) (T := TX3) (N := 21) hx hb hts iRX3 hown hw 42 (by omega) (hadF 42 (by decide)).symm gO rfl 11 (by decide) (hts (.fieldLink RX3 36 "LibraryDeskModel" "wanted" "[I") (by decide +kernel)) (fun _ h9 => h9) rfl dX3_init_135 ?_
        refine lv_iload_n hx hb dX3_init_138 rfl (lv_at hl 0 rfl) ?_
        refine lv_iconst (v := (-1)) hx hb dX3_init_139 (by decide) ?_
        refine wr_iast (j := i) hx hb hw 51 (by omega) 0 gw rfl (vp_in_nI (by omega) (by decide)) (nI_clamp (by omega)) dX3_init_140 (fun en497 H locs hE496 hw => ?_)
        have he498 : en497 42 = .inr (4, [.int 0, .ref (ad442 43), .ref (ad442 44), .ref (ad442 45), .ref (ad442 46), .int 0, .ref (ad442 47), .ref (ad442 48), .ref (ad442 49), .ref (ad442 50), .int 0, .ref (ad442 51), .ref (ad442 52), .ref (ad442 53), .ref (ad442 54), .ref (ad442 55), .ref (ad442 56), .ref (ad442 57), .long 0, .int 0, .int 0]) := w_ne hE496 (by omega) gO
        have he499 : en497 43 = .inl (q.2.2.1, 328, .inl ((fun _ => 0))) := w_ne hE496 (by omega) gH
        have he500 : en497 44 = .inl (q.1, 8, .inl ((fun _ => 0))) := w_ne hE496 (by omega) gM
        have he501 : en497 45 = .inl (q.2.1, 8, .inr (.inl ((fun _ => 0)))) := w_ne hE496 (by omega) gT
        have he502 : en497 46 = .inl (q.2.1, 20, .inr (.inl ((fun _ => 0)))) := w_ne hE496 (by omega) gR
        have he503 : en497 47 = .inl (q.2.2.1, 328, .inl ((fun _ => 0))) := w_ne hE496 (by omega) goH
        have he504 : en497 48 = .inl (q.1, 8, .inl ((fun _ => 0))) := w_ne hE496 (by omega) goM
        have he505 : en497 49 = .inl (q.2.1, 8, .inr (.inl ((fun _ => 0)))) := w_ne hE496 (by omega) goT
        have he506 : en497 50 = .inl (q.2.1, 20, .inr (.inl ((fun _ => 0)))) := w_ne hE496 (by omega) goR
        have he507 : en497 51 = .inl (q.1, 10, .inl (upd wf i ((-1)))) := w_self hE496
        have he508 : en497 52 = .inl (q.1, 60, .inl ((fun _ => 0))) := w_ne hE496 (by omega) gs
        have he509 : en497 53 = .inl (q.1, 60, .inl ((fun _ => 0))) := w_ne hE496 (by omega) gk
        have he510 : en497 54 = .inl (q.1, 10, .inl ((fun _ => 0))) := w_ne hE496 (by omega) ga
        have he511 : en497 55 = .inl (q.1, 10, .inl ff) := w_ne hE496 (by omega) gf
        have he512 : en497 56 = .inl (q.1, 10, .inl ((fun _ => 0))) := w_ne hE496 (by omega) gx
        have he513 : en497 57 = .inl (q.1, 7, .inl ((fun _ => 0))) := w_ne hE496 (by omega) gt
        refine lv_aload_n hx hb dX3_init_141 rfl (lv_at hl 1 rfl) ?_
        refine wr_getA (ci := 4) (C := RX3) (T := TX3) (N := 21) hx hb hts iRX3 hown hw 42 (by omega) (hadF 42 (by decide)).symm he498 rfl 15 (by decide) (hts (.fieldLink RX3 48 "LibraryDeskModel" "failsAt" "[I") (by decide +kernel)) (fun _ h9 => h9) rfl dX3_init_142 ?_
        refine lv_iload_n hx hb dX3_init_145 rfl (lv_at hl 0 rfl) ?_
        refine lv_iconst (v := (-1)) hx hb dX3_init_146 (by decide) ?_
        refine wr_iast (j := i) hx hb hw 55 (by omega) 0 he511 rfl (vp_in_nI (by omega) (by decide)) (nI_clamp (by omega)) dX3_init_147 (fun en515 H locs hE514 hw => ?_)
        have he516 : en515 42 = .inr (4, [.int 0, .ref (ad442 43), .ref (ad442 44), .ref (ad442 45), .ref (ad442 46), .int 0, .ref (ad442 47), .ref (ad442 48), .ref (ad442 49), .ref (ad442 50), .int 0, .ref (ad442 51), .ref (ad442 52), .ref (ad442 53), .ref (ad442 54), .ref (ad442 55), .ref (ad442 56), .ref (ad442 57), .long 0, .int 0, .int 0]) := w_ne hE514 (by omega) he498
        have he517 : en515 43 = .inl (q.2.2.1, 328, .inl ((fun _ => 0))) := w_ne hE514 (by omega) he499
        have he518 : en515 44 = .inl (q.1, 8, .inl ((fun _ => 0))) := w_ne hE514 (by omega) he500
        have he519 : en515 45 = .inl (q.2.1, 8, .inr (.inl ((fun _ => 0)))) := w_ne hE514 (by omega) he501
        have he520 : en515 46 = .inl (q.2.1, 20, .inr (.inl ((fun _ => 0)))) := w_ne hE514 (by omega) he502
        have he521 : en515 47 = .inl (q.2.2.1, 328, .inl ((fun _ => 0))) := w_ne hE514 (by omega) he503
        have he522 : en515 48 = .inl (q.1, 8, .inl ((fun _ => 0))) := w_ne hE514 (by omega) he504
        have he523 : en515 49 = .inl (q.2.1, 8, .inr (.inl ((fun _ => 0)))) := w_ne hE514 (by omega) he505
        have he524 : en515 50 = .inl (q.2.1, 20, .inr (.inl ((fun _ => 0)))) := w_ne hE514 (by omega) he506
        have he525 : en515 51 = .inl (q.1, 10, .inl (upd wf i ((-1)))) := w_ne hE514 (by omega) he507
        have he526 : en515 52 = .inl (q.1, 60, .inl ((fun _ => 0))) := w_ne hE514 (by omega) he508
        have he527 : en515 53 = .inl (q.1, 60, .inl ((fun _ => 0))) := w_ne hE514 (by omega) he509
        have he528 : en515 54 = .inl (q.1, 10, .inl ((fun _ => 0))) := w_ne hE514 (by omega) he510
        have he529 : en515 55 = .inl (q.1, 10, .inl (upd ff i ((-1)))) := w_self hE514
        have he530 : en515 56 = .inl (q.1, 10, .inl ((fun _ => 0))) := w_ne hE514 (by omega) he512
        have he531 : en515 57 = .inl (q.1, 7, .inl ((fun _ => 0))) := w_ne hE514 (by omega) he513
        refine lv_iinc (v := nI (i + 1)) (lv' := [(1, .int (nI (i + 1))), (0, .ref (ad 42))]) hx hb dX3_init_148 hl (k := 0) rfl (nI_1 i) (by decide) rfl (fun ls hl => ?_)
        refine lv_goto (tgt := 128) hx hb dX3_init_151 (by decide) ?_
        refine ih (i + 1) (by omega) _ _ _ (fun j hj => ?_) (fun j hj => ?_) he516 he517 he518 he519 he520 he521 he522 he523 he524 he525 he526 he527 he528 he529 he530 he531 (fun j hj => (w_fr hE514 (by omega)).trans ((w_fr hE496 (by omega)).trans (hfr j hj))) _ _ hw ls (lv_sub hl [0, 1] rfl)
        · by_cases e : j = i
          · rw [e, pk_us]
          · rw [pk_un e]; exact hwf j (by omega)
        · by_cases e : j = i
          · rw [e, pk_us]
          · rw [pk_un e]; exact hff j (by omega)
  exact key 10 0 rfl _ _ _ (fun j h => absurd h (Nat.not_lt_zero j)) (fun j h => absurd h (Nat.not_lt_zero j)) heF he481 he482 he483 he484 he485 he486 he487 he488 he489 he490 he491 he492 he493 he494 he495 (fun j hj => (w_fr hE478 (by omega)).trans ((w_fr hE445 (by omega)).trans ((w_fr hE425 (by omega)).trans ((w_fr hE394 (by omega)).trans ((w_fr hE375 (by omega)).trans ((w_fr hE346 (by omega)).trans ((w_fr hE328 (by omega)).trans ((w_fr hE301 (by omega)).trans ((w_fr hE284 (by omega)).trans ((w_fr hE259 (by omega)).trans ((w_fr hE243 (by omega)).trans ((w_fr hE220 (by omega)).trans ((w_fr hE205 (by omega)).trans ((w_fr hE184 (by omega)).trans ((w_fr hE170 (by omega)).trans ((w_fr hE151 (by omega)).trans ((w_fr hE138 (by omega)).trans ((w_fr hE121 (by omega)).trans ((w_fr hE109 (by omega)).trans ((w_fr hE94 (by omega)).trans ((w_fr hE83 (by omega)).trans ((w_fr hE70 (by omega)).trans ((w_fr hE60 (by omega)).trans ((w_fr hE49 (by omega)).trans ((w_fr hE40 (by omega)).trans ((w_fr hE31 (by omega)).trans ((w_fr hE23 (by omega)).trans ((w_fr hE16 (by omega)).trans ((w_fr hE9 (by omega)).trans (w_fr hE4 (by omega))))))))))))))))))))))))))))))) _ _ hw ls (lv_sub hl [0, 1] rfl)
