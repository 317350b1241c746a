set_option maxHeartbeats 1000000 in
set_option maxRecDepth 100000 in
theorem kX2_init (l : Launch) (dC : Nat → ClassId) (dI : Nat → Nat → Nat) (q : ClassId × ClassId × ClassId × ClassId) (ad : Nat → Nat) (en : Nat → va_E) (sz : Nat) (h0 : en 0 = .inr (3, [.null, .null, .null, .long 0, .int 0, .int 0, .int 0, .int 0, .int 0, .int 0, .int 0, .int 0, .int 0])) :
    Met l yX2_init wsX2_init ({ frames := 2, cells := 41, slots := 288, locals := 32 }) (wPc (dC, dI) vwCl (wT q) ad en 1 sz [.ref (ad 0)]) (va_Qv (fun u => DeskAt q u.1 u.2 A0 (fun _ => P0) (fun _ => 0) ∧ u.1 0 = ad 0) (wG (dC, dI) vwCl (wT q) 42 (wA ad 1 sz)) (wA ad 1 sz)) 41 288 (wA ad 1 sz) := by
  refine Met.ofW (cc := cX2_init) (maxL := 2) (ret := none) (by decide) rfl ?_
  intro p e s m args below meth c s₁ B hml hv
  obtain ⟨rfl, hsz, hP, hK, hD0, hE0⟩ := hv
  have hx := B.exec
  have hb := B.bytes
  have hr := B.returns
  have hts := atoms_spec (ws := wsX2_init) B.pre
  have hown : s.vm.findClass RX2 = some m.cls := findClass_of_methodNamed B.named
  have hlocks := B.notSynchronized
  have hin : meth.name = "<init>" := (name_of_methodNamed B.named B.method).1
  have iRX0 : ∀ w ∈ u_ws RX0 TX0 5, w ∈ wsX2_init := by decide +kernel
  have iRX1 : ∀ w ∈ u_ws RX1 TX1 6, w ∈ wsX2_init := by decide +kernel
  have iRX2 : ∀ w ∈ u_ws RX2 TX2 13, w ∈ wsX2_init := by decide +kernel
  subst hsz
  have hw := wk_of hP hK hD0 hE0
  generalize wA ad 1 s.heap.size = AA at hw ⊢
  have hl := lv_entry ([.ref (ad 0)]) (n := 2) (Nat.le_of_ble_eq_true rfl)
  rw [lg_entry_eq]
  generalize (lg_sl ([.ref (ad 0)]) ++ List.replicate (2 - (lg_sl ([.ref (ad 0)])).length) Slot.unset).toArray = ls at hl ⊢
  have hl : lv_has ls 2 [(0, .ref (ad 0))] := hl
  refine lv_aload_n hx hb dX2_init_0 rfl (lv_at hl 0 rfl) ?_
  refine W.objInit hx hb hown (hts (.methodLink RX2 1 objectInit) (by decide +kernel)) (hts (.instanceMethod objectInit) (by decide +kernel)) (hts _ (List.mem_cons_of_mem _ (List.mem_append_left _ (List.mem_append_left _ (List.mem_append_left _ (List.mem_append_left _ (List.mem_of_getElem? (i := 2) rfl))))))) rfl (by rw [hml]; exact hl.1) rfl dX2_init_1 (Nat.le_of_ble_eq_true rfl) (Nat.le_of_ble_eq_true rfl) ?_
  refine W.eq (g2 := F0 m 4 ls []) rfl ?_
  refine lv_aload_n hx hb dX2_init_4 rfl (lv_at hl 0 rfl) ?_
  refine lv_bipush (v := 10) hx hb dX2_init_5 (by decide) ?_
  refine wr_newq (C := RX1) (i := 10) (N' := 10) hx hb hown (hts (.classLink RX2 9 RX1) (by decide +kernel)) hw.2.2.2.2.2.2 hw 3 rfl (by decide) (by decide) (Nat.le_of_ble_eq_true rfl) (Nat.le_of_ble_eq_true rfl) (Nat.le_of_ble_eq_true rfl) dX2_init_7 (fun ad1 en1 H hg1 hE1 hw => ?_)
  have a1 : ad 0 = ad1 0 := (hg1 0 (by omega)).symm
  have e10 : en1 0 = .inr (3, [.null, .null, .null, .long 0, .int 0, .int 0, .int 0, .int 0, .int 0, .int 0, .int 0, .int 0, .int 0]) := w_ne hE1 (by omega) h0
  have e11 : en1 1 = .inl (q.2.2.2, 10, .inr (.inr (.inr (.inr (fun _ => none))))) := w_self hE1
  refine wr_putFA (ci := 3) (v := .ref (ad1 1)) (ty := .array (.object "LibraryDesk$Plan")) (C := RX2) (T := TX2) (N := 13) hx hb hts iRX2 tyX2 tyX2_ok nmX2 hown hw 0 (by omega) a1 e10 rfl 0 (by decide) (hts (.fieldLink RX2 11 "LibraryDesk" "plans" "[LLibraryDesk$Plan;") (by decide +kernel)) (fun _ h9 => h9) rfl hin rfl (by decide +kernel) rfl rfl (Nat.le_of_ble_eq_true rfl) dX2_init_10 (fun en2 H locs hE2 hw => ?_)
  have e20 : en2 0 = .inr (3, [.ref (ad1 1), .null, .null, .long 0, .int 0, .int 0, .int 0, .int 0, .int 0, .int 0, .int 0, .int 0, .int 0]) := w_self hE2
  have e21 : en2 1 = .inl (q.2.2.2, 10, .inr (.inr (.inr (.inr (fun _ => none))))) := w_ne hE2 (by omega) e11
  refine lv_iconst (v := 0) hx hb dX2_init_13 (by decide) ?_
  refine lv_istore_n (lv' := [(1, .int 0), (0, .ref (ad 0))]) hx hb dX2_init_14 rfl hl (by decide) rfl (fun ls hl => ?_)
  have key : ∀ (d i : Nat), i + d = 10 → ∀ (ad1 : Nat → Nat) (en1 : Nat → va_E) (g : Nat → Option Nat), ad1 0 = ad 0 → en1 0 = .inr (3, [.ref (ad1 1), .null, .null, .long 0, .int 0, .int 0, .int 0, .int 0, .int 0, .int 0, .int 0, .int 0, .int 0]) → en1 1 = .inl (q.2.2.2, 10, .inr (.inr (.inr (.inr g)))) → (∀ j, j < i → g j = some (ad1 (2 + 3 * j))) → (∀ j, j < i → PlanAt q ad1 en1 (2 + 3 * j) P0) → ∀ (H : Heap) (locs : List Loc), wk (dC, dI) vwCl (wT q) ad1 en1 (2 + 3 * i) AA s H locs → ∀ ls : Array Slot, lv_has ls 2 [(1, .int (nI i)), (0, .ref (ad 0))] → W p l e (headSpec wsX2_init ({ frames := 2, cells := 41, slots := 288, locals := 32 })).room s m ([.ref (ad 0)].toArray) below meth c H locs (1 + 3 * i) (10 + 18 * i) (MQ below (va_Qv (fun u => DeskAt q u.1 u.2 A0 (fun _ => P0) (fun _ => 0) ∧ u.1 0 = ad 0) (wG (dC, dI) vwCl (wT q) 42 AA) AA) ([.ref (ad 0)].toArray) s 41 288 AA) (F0 m 15 ls []) := by
    intro d
    induction d with
    | zero =>
      intro i hi ad1 en1 g a1 e0 e1 hg hp H locs hw ls hl
      have hi0 : i = 10 := by omega
      subst hi0
      refine lv_iload_n hx hb dX2_init_15 rfl (lv_at hl 0 rfl) ?_
      refine lv_bipush (v := 10) hx hb dX2_init_16 (by decide) ?_
      refine lv_icmp_ge (tgt := 40) hx hb dX2_init_18 (by decide) (fun c18 => ?_) (fun c18 => absurd (Int32.le_refl _) c18)
      refine lv_aload_n hx hb dX2_init_40 rfl (lv_at hl 1 rfl) ?_
      refine wr_new (ci := 1) (fs := [.null, .null, .null, .null, .int 0]) (C := RX0) (T := TX0) (N := 5) hx hb hts iRX0 tyX0 tyX0_ok hown (hts (.classLink RX2 16 RX0) (by decide +kernel)) (hts (.instantiable RX0 5) (by decide +kernel)) (hts (.initialized RX0) (by decide +kernel)) hw rfl (fun j hj => by rcases (show j = 0 ∨ j = 1 ∨ j = 2 ∨ j = 3 ∨ j = 4 by omega) with rfl | rfl | rfl | rfl | rfl <;> rfl) (Nat.le_of_ble_eq_true rfl) (Nat.le_of_ble_eq_true rfl) dX2_init_41 (fun ad2 en2 H hg2 hE2 hw => ?_)
      have hw : wk (dC, dI) vwCl (wT q) ad2 en2 33 AA s H locs := hw
      have hs2 : en2 32 = .inr (1, [.null, .null, .null, .null, .int 0]) := w_self hE2
      refine lv_dup hx hb dX2_init_44 rfl ?_
      refine wc_g (n2 := 37) hw (va_runI (b := ad2 32) (As := []) (rest := [.ref (ad2 32), .ref (ad 0)]) ⟨hx, hb, hml, hown, hts⟩ (kX0_init l dC dI q ad2 en2 _ 32 hs2) (cwI 0 hts gX2_init_X0_init rfl rfl rfl (hts (.initialized RX0) (by decide +kernel)) (hts (.methodLink RX2 18 yX0_init) (by decide +kernel)) (hts (.instanceMethod yX0_init) (by decide +kernel)) rfl (by decide +kernel) ⟨Nat.le_of_ble_eq_true rfl, Nat.le_of_ble_eq_true rfl⟩) (wk_preS hw) rfl rfl hl.1 rfl (lv_room (Nat.le_of_ble_eq_true rfl)) dX2_init_45 ⟨Nat.le_of_ble_eq_true rfl, Nat.le_of_ble_eq_true rfl⟩) (fun ad3 en3 H locs hp3 hw => ?_)
      dsimp only at hp3
      obtain ⟨hH3, ha3, hf3⟩ := hp3
      have b3 : ad3 1 = ad1 1 := (ha3 1 (by omega)).trans (hg2 1 (by omega))
      have a3 : ad 0 = ad3 0 := a1.symm.trans ((ha3 0 (by omega)).trans (hg2 0 (by omega))).symm
      have e30 : en3 0 = .inr (3, [.ref (ad3 1), .null, .null, .long 0, .int 0, .int 0, .int 0, .int 0, .int 0, .int 0, .int 0, .int 0, .int 0]) := by rw [hf3 0 (by omega), w_fr hE2 (by omega), e0, b3]
      refine wr_putA (ci := 3) (v := .ref (ad2 32)) (ty := .object "LibraryDesk$Holdings") (C := RX2) (T := TX2) (N := 13) hx hb hts iRX2 tyX2 tyX2_ok nmX2 hown hw 0 (by omega) a3 e30 rfl 1 (by decide) (hts (.fieldLink RX2 19 "LibraryDesk" "now" "LLibraryDesk$Holdings;") (by decide +kernel)) (fun _ h9 => h9) rfl (by decide +kernel) rfl rfl (Nat.le_of_ble_eq_true rfl) dX2_init_48 (fun en4 H locs hE4 hw => ?_)
      have e40 : en4 0 = .inr (3, [.ref (ad3 1), .ref (ad2 32), .null, .long 0, .int 0, .int 0, .int 0, .int 0, .int 0, .int 0, .int 0, .int 0, .int 0]) := w_self hE4
      refine lv_aload_n hx hb dX2_init_51 rfl (lv_at hl 1 rfl) ?_
      refine wr_new (ci := 1) (fs := [.null, .null, .null, .null, .int 0]) (C := RX0) (T := TX0) (N := 5) hx hb hts iRX0 tyX0 tyX0_ok hown (hts (.classLink RX2 16 RX0) (by decide +kernel)) (hts (.instantiable RX0 5) (by decide +kernel)) (hts (.initialized RX0) (by decide +kernel)) hw rfl (fun j hj => by rcases (show j = 0 ∨ j = 1 ∨ j = 2 ∨ j = 3 ∨ j = 4 by omega) with rfl | rfl | rfl | rfl | rfl <;> rfl) (Nat.le_of_ble_eq_true rfl) (Nat.le_of_ble_eq_true rfl) dX2_init_52 (fun ad5 en5 H hg5 hE5 hw => ?_)
      have hw : wk (dC, dI) vwCl (wT q) ad5 en5 38 AA s H locs := hw
      have hs5 : en5 37 = .inr (1, [.null, .null, .null, .null, .int 0]) := w_self hE5
      refine lv_dup hx hb dX2_init_55 rfl ?_
      refine wc_g (n2 := 42) hw (va_runI (b := ad5 37) (As := []) (rest := [.ref (ad5 37), .ref (ad 0)]) ⟨hx, hb, hml, hown, hts⟩ (kX0_init l dC dI q ad5 en5 _ 37 hs5) (cwI 0 hts gX2_init_X0_init rfl rfl rfl (hts (.initialized RX0) (by decide +kernel)) (hts (.methodLink RX2 18 yX0_init) (by decide +kernel)) (hts (.instanceMethod yX0_init) (by decide +kernel)) rfl (by decide +kernel) ⟨Nat.le_of_ble_eq_true rfl, Nat.le_of_ble_eq_true rfl⟩) (wk_preS hw) rfl rfl hl.1 rfl (lv_room (Nat.le_of_ble_eq_true rfl)) dX2_init_56 ⟨Nat.le_of_ble_eq_true rfl, Nat.le_of_ble_eq_true rfl⟩) (fun ad6 en6 H locs hp6 hw => ?_)
      dsimp only at hp6
      obtain ⟨hH6, ha6, hf6⟩ := hp6
      have b6 : ad6 1 = ad3 1 := (ha6 1 (by omega)).trans (hg5 1 (by omega))
      have c6 : ad6 32 = ad2 32 := (ha6 32 (by omega)).trans ((hg5 32 (by omega)).trans (ha3 32 (by omega)))
      have a6 : ad 0 = ad6 0 := a3.trans ((ha6 0 (by omega)).trans (hg5 0 (by omega))).symm
      have e60 : en6 0 = .inr (3, [.ref (ad6 1), .ref (ad6 32), .null, .long 0, .int 0, .int 0, .int 0, .int 0, .int 0, .int 0, .int 0, .int 0, .int 0]) := by rw [hf6 0 (by omega), w_fr hE5 (by omega), e40, b6, c6]
      refine wr_putA (ci := 3) (v := .ref (ad5 37)) (ty := .object "LibraryDesk$Holdings") (C := RX2) (T := TX2) (N := 13) hx hb hts iRX2 tyX2 tyX2_ok nmX2 hown hw 0 (by omega) a6 e60 rfl 2 (by decide) (hts (.fieldLink RX2 23 "LibraryDesk" "trial" "LLibraryDesk$Holdings;") (by decide +kernel)) (fun _ h9 => h9) rfl (by decide +kernel) rfl rfl (Nat.le_of_ble_eq_true rfl) dX2_init_59 (fun en7 H locs hE7 hw => ?_)
      have e70 : en7 0 = .inr (3, [.ref (ad6 1), .ref (ad6 32), .ref (ad5 37), .long 0, .int 0, .int 0, .int 0, .int 0, .int 0, .int 0, .int 0, .int 0, .int 0]) := w_self hE7
      have d6 : ad6 37 = ad5 37 := ha6 37 (by omega)
      have adc : ∀ j, j < 32 → ad6 j = ad1 j := fun j hj => (ha6 j (by omega)).trans ((hg5 j (by omega)).trans ((ha3 j (by omega)).trans (hg2 j (by omega))))
      have enc : ∀ j, 0 < j → j < 32 → en7 j = en1 j := fun j h1 hj => (w_fr hE7 (by omega)).trans ((hf6 j (by omega)).trans ((w_fr hE5 (by omega)).trans ((w_fr hE4 (by omega)).trans ((hf3 j (by omega)).trans (w_fr hE2 (by omega))))))
      refine we_g hx hb hr hlocks hw ?_ dX2_init_62
      refine ⟨⟨32, 37, A0, 0, 0, 0, Or.inl ⟨rfl, rfl⟩, ?_, ⟨g, (enc 1 (by omega) (by omega)).trans e1, fun i hi => ?_⟩, fun i hi => PlanAt_mv (hp i hi) (fun j h1 h2 => adc j (by omega)) (fun j h1 h2 => enc j (by omega) (by omega)), ?_, ?_⟩, a6.symm⟩
      · show en7 0 = .inr (3, [.ref (ad6 1), .ref (ad6 32), .ref (ad6 37), .long 0, .int 0, .int 0, .int 0, .int 0, .int 0, .int 0, .int 0, .int 0, .int 0])
        rw [d6]
        exact e70
      · rw [hg i hi]
        show some (ad1 (2 + 3 * i)) = some (ad6 (2 + 3 * i))
        rw [adc _ (by omega)]
      · exact HoldAt_mv hH3 (fun j h1 h2 => (ha6 j (by omega)).trans (hg5 j (by omega))) (fun j h1 h2 => (w_fr hE7 (by omega)).trans ((hf6 j (by omega)).trans ((w_fr hE5 (by omega)).trans (w_fr hE4 (by omega)))))
      · exact HoldAt_mv hH6 (fun j h1 h2 => rfl) (fun j h1 h2 => w_fr hE7 (by omega))
    | succ d ih =>
      intro i hi ad1 en1 g a1 e0 e1 hg hp H locs hw ls hl
      have hi10 : i < 10 := by omega
      refine lv_iload_n hx hb dX2_init_15 rfl (lv_at hl 0 rfl) ?_
      refine lv_bipush (v := 10) hx hb dX2_init_16 (by decide) ?_
      refine lv_icmp_ge (tgt := 40) hx hb dX2_init_18 (by decide) (fun c18 => absurd ((nI_leI (a := 10) (by omega) (by omega)).mp c18) (by omega)) (fun c18 => ?_)
      refine lv_aload_n hx hb dX2_init_21 rfl (lv_at hl 1 rfl) ?_
      refine wr_getA (ci := 3) (C := RX2) (T := TX2) (N := 13) hx hb hts iRX2 hown hw 0 (by omega) a1.symm e0 rfl 0 (by decide) (hts (.fieldLink RX2 11 "LibraryDesk" "plans" "[LLibraryDesk$Plan;") (by decide +kernel)) (fun _ h9 => h9) rfl dX2_init_22 ?_
      refine lv_iload_n hx hb dX2_init_25 rfl (lv_at hl 0 rfl) ?_
      refine wr_new (ci := 2) (fs := [.int 0, .int 0, .null, .null, .int 0, .int 0]) (C := RX1) (T := TX1) (N := 6) hx hb hts iRX1 tyX1 tyX1_ok hown (hts (.classLink RX2 9 RX1) (by decide +kernel)) (hts (.instantiable RX1 6) (by decide +kernel)) (hts (.initialized RX1) (by decide +kernel)) hw rfl (fun j hj => by rcases (show j = 0 ∨ j = 1 ∨ j = 2 ∨ j = 3 ∨ j = 4 ∨ j = 5 by omega) with rfl | rfl | rfl | rfl | rfl | rfl <;> rfl) (by show 1 + 3 * i + 1 ≤ 41; omega) (by show 10 + 18 * i + 6 ≤ 288; omega) dX2_init_26 (fun ad2 en2 H hg2 hE2 hw => ?_)
      have hs2 : en2 (2 + 3 * i) = .inr (2, [.int 0, .int 0, .null, .null, .int 0, .int 0]) := w_self hE2
      refine lv_dup hx hb dX2_init_29 rfl ?_
      refine wc_g (n2 := 2 + 3 * i + 3) hw (va_runI (b := ad2 (2 + 3 * i)) (As := []) (rest := [.ref (ad2 (2 + 3 * i)), .int (nI i), .ref (ad1 1)]) ⟨hx, hb, hml, hown, hts⟩ (kX1_init l dC dI q ad2 en2 _ (2 + 3 * i) hs2) (cwI 0 hts gX2_init_X1_init rfl rfl rfl (hts (.initialized RX1) (by decide +kernel)) (hts (.methodLink RX2 15 yX1_init) (by decide +kernel)) (hts (.instanceMethod yX1_init) (by decide +kernel)) rfl (by decide +kernel) ⟨Nat.le_of_ble_eq_true rfl, Nat.le_of_ble_eq_true rfl⟩) (wk_preS hw) rfl rfl hl.1 rfl (lv_room (Nat.le_of_ble_eq_true rfl)) dX2_init_30 ⟨by show 1 + 3 * i + 1 + 2 ≤ 41; omega, by show 10 + 18 * i + 6 + 12 ≤ 288; omega⟩) (fun ad3 en3 H locs hp3 hw => ?_)
      dsimp only at hp3
      obtain ⟨hP3, ha3, hf3⟩ := hp3
      have adc : ∀ j, j < 2 + 3 * i → ad3 j = ad1 j := fun j hj => (ha3 j (by omega)).trans (hg2 j (by omega))
      have enc : ∀ j, j < 2 + 3 * i → en3 j = en1 j := fun j hj => (hf3 j (by omega)).trans (w_fr hE2 (by omega))
      obtain ⟨sf, kf, p0, p1, p2, p3⟩ := id hP3
      refine wr_astqA (j := i) hx hb hw 1 (by omega) (adc 1 (by omega)).symm 3 (2 + 3 * i) (by omega) (ha3 (2 + 3 * i) (by omega)).symm ((enc 1 (by omega)).trans e1) rfl p0 rfl (vp_in_nI (by omega) (by decide)) (nI_clamp (by omega)) dX2_init_33 (fun en4 H locs hE4 hw => ?_)
      refine lv_iinc (v := nI (i + 1)) (lv' := [(1, .int (nI (i + 1))), (0, .ref (ad 0))]) hx hb dX2_init_34 hl (k := 0) rfl (nI_1 i) (by decide) rfl (fun ls hl => ?_)
      refine lv_goto (tgt := 15) hx hb dX2_init_37 (by decide) ?_
      have hw : wk (dC, dI) vwCl (wT q) ad3 en4 (2 + 3 * (i + 1)) AA s H locs := by
        rw [show 2 + 3 * (i + 1) = 2 + 3 * i + 3 by omega]
        exact hw
      refine W.cs (cells' := 1 + 3 * (i + 1)) (slots' := 10 + 18 * (i + 1)) (by omega) (by omega) ?_
      refine ih (i + 1) (by omega) ad3 en4 _ ((adc 0 (by omega)).trans a1) ?_ (w_self hE4) (fun j hj => ?_) (fun j hj => ?_) _ _ hw ls hl
      · rw [w_fr hE4 (by omega), enc 0 (by omega), e0, adc 1 (by omega)]
      · by_cases ej : j = i
        · rw [ej, va_up_self, ha3 (2 + 3 * i) (by omega)]
        · rw [va_up_ne _ _ ej, hg j (by omega), adc _ (by omega)]
      · by_cases ej : j = i
        · rw [ej]
          exact PlanAt_fr hP3 (fun z h1 h2 => w_fr hE4 (by omega))
        · exact PlanAt_mv (hp j (by omega)) (fun z h1 h2 => adc z (by omega)) (fun z h1 h2 => (w_fr hE4 (by omega)).trans (enc z (by omega)))
  refine W.cs (cells' := 1 + 3 * 0) (slots' := 10 + 18 * 0) rfl rfl ?_
  exact key 10 0 rfl ad1 en2 _ a1.symm e20 e21 (fun j h => absurd h (Nat.not_lt_zero j)) (fun j h => absurd h (Nat.not_lt_zero j)) _ _ hw ls hl
