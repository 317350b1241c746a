set_option maxHeartbeats 4000000 in
set_option maxRecDepth 100000 in
/-- Long.bitCount -/
theorem kJ13_bitCount_95d88 (l : Launch) (dC : Nat → ClassId) (dI : Nat → Nat → Nat) (q : ClassId × ClassId × ClassId × ClassId) (ad : Nat → Nat) (en : Nat → va_E) (n sz : Nat) (x : Int64) :
    Met l yJ13_bitCount_95d88 wsJ13_bitCount_95d88 ({ frames := 0, cells := 0, slots := 0, locals := 0 }) (wPc (dC, dI) vwCl (wT q) ad en n sz [.long x]) (va_Qi (fun (r : Int32) (en' : Nat → va_E) => r = nI (pcN 64 (x.toUInt64.toNat)) ∧ en' = en) (wB (dC, dI) vwCl (wT q) ad n (wA ad n sz)) (wA ad n sz)) 0 0 (wA ad n sz) := by
  refine Met.ofW (cc := cJ13_bitCount_95d88) (maxL := 2) (ret := (some .int)) (by decide) rfl ?_
  intro p e s m args below meth c s₁ B hml hv
  obtain ⟨rfl, hsz, hP, hK, hD0, hE0⟩ := hv
  have hx := B.exec
  have hb := B.bytes
  have hr := B.returns
  have hts := atoms_spec (ws := wsJ13_bitCount_95d88) B.pre
  have hown : s.vm.findClass RJ13 = some m.cls := findClass_of_methodNamed B.named
  have hlocks := B.notSynchronized
  subst hsz
  have hw := wk_of hP hK hD0 hE0
  generalize wA ad n s.heap.size = AA at hw ⊢
  have hl := lv_entry ([.long x]) (n := 2) (Nat.le_of_ble_eq_true rfl)
  rw [lg_entry_eq]
  generalize (lg_sl ([.long x]) ++ List.replicate (2 - (lg_sl ([.long x])).length) Slot.unset).toArray = ls at hl ⊢
  have hl : lv_has ls 2 [(0, .long x)] := hl
  refine lv_lload_n hx hb dJ13_bitCount_95d88_0 rfl (lv_at hl 0 rfl) ?_
  refine lv_lload_n hx hb dJ13_bitCount_95d88_1 rfl (lv_at hl 0 rfl) ?_
  refine lv_iconst (v := 1) hx hb dJ13_bitCount_95d88_2 (by decide) ?_
  refine lv_lushr hx hb dJ13_bitCount_95d88_3 rfl ?_
  refine lv_topl (fun x1 ex1 => ?_)
  refine lv_ldc2 (v := 6148914691236517205) hx hb hown (hts (.constantLong RJ13 314 (6148914691236517205)) (by decide +kernel)) dJ13_bitCount_95d88_4 ?_
  refine lv_land hx hb dJ13_bitCount_95d88_7 ?_
  refine lv_topl (fun x2 ex2 => ?_)
  refine lv_lsub hx hb dJ13_bitCount_95d88_8 ?_
  refine lv_topl (fun x3 ex3 => ?_)
  refine lv_lstore_n (lv' := [(0, .long x3)]) hx hb dJ13_bitCount_95d88_9 rfl hl (by decide) rfl (fun ls hl => ?_)
  refine lv_lload_n hx hb dJ13_bitCount_95d88_10 rfl (lv_at hl 0 rfl) ?_
  refine lv_ldc2 (v := 3689348814741910323) hx hb hown (hts (.constantLong RJ13 316 (3689348814741910323)) (by decide +kernel)) dJ13_bitCount_95d88_11 ?_
  refine lv_land hx hb dJ13_bitCount_95d88_14 ?_
  refine lv_topl (fun x4 ex4 => ?_)
  refine lv_lload_n hx hb dJ13_bitCount_95d88_15 rfl (lv_at hl 0 rfl) ?_
  refine lv_iconst (v := 2) hx hb dJ13_bitCount_95d88_16 (by decide) ?_
  refine lv_lushr hx hb dJ13_bitCount_95d88_17 rfl ?_
  refine lv_topl (fun x5 ex5 => ?_)
  refine lv_ldc2 (v := 3689348814741910323) hx hb hown (hts (.constantLong RJ13 316 (3689348814741910323)) (by decide +kernel)) dJ13_bitCount_95d88_18 ?_
  refine lv_land hx hb dJ13_bitCount_95d88_21 ?_
  refine lv_topl (fun x6 ex6 => ?_)
  refine lv_ladd hx hb dJ13_bitCount_95d88_22 ?_
  refine lv_topl (fun x7 ex7 => ?_)
  refine lv_lstore_n (lv' := [(0, .long x7)]) hx hb dJ13_bitCount_95d88_23 rfl hl (by decide) rfl (fun ls hl => ?_)
  refine lv_lload_n hx hb dJ13_bitCount_95d88_24 rfl (lv_at hl 0 rfl) ?_
  refine lv_lload_n hx hb dJ13_bitCount_95d88_25 rfl (lv_at hl 0 rfl) ?_
  refine lv_iconst (v := 4) hx hb dJ13_bitCount_95d88_26 (by decide) ?_
  refine lv_lushr hx hb dJ13_bitCount_95d88_27 rfl ?_
  refine lv_topl (fun x8 ex8 => ?_)
  refine lv_ladd hx hb dJ13_bitCount_95d88_28 ?_
  refine lv_topl (fun x9 ex9 => ?_)
  refine lv_ldc2 (v := 1085102592571150095) hx hb hown (hts (.constantLong RJ13 318 (1085102592571150095)) (by decide +kernel)) dJ13_bitCount_95d88_29 ?_
  refine lv_land hx hb dJ13_bitCount_95d88_32 ?_
  refine lv_topl (fun x10 ex10 => ?_)
  refine lv_lstore_n (lv' := [(0, .long x10)]) hx hb dJ13_bitCount_95d88_33 rfl hl (by decide) rfl (fun ls hl => ?_)
  refine lv_lload_n hx hb dJ13_bitCount_95d88_34 rfl (lv_at hl 0 rfl) ?_
  refine lv_lload_n hx hb dJ13_bitCount_95d88_35 rfl (lv_at hl 0 rfl) ?_
  refine lv_bipush (v := 8) hx hb dJ13_bitCount_95d88_36 (by decide) ?_
  refine lv_lushr hx hb dJ13_bitCount_95d88_38 rfl ?_
  refine lv_topl (fun x11 ex11 => ?_)
  refine lv_ladd hx hb dJ13_bitCount_95d88_39 ?_
  refine lv_topl (fun x12 ex12 => ?_)
  refine lv_lstore_n (lv' := [(0, .long x12)]) hx hb dJ13_bitCount_95d88_40 rfl hl (by decide) rfl (fun ls hl => ?_)
  refine lv_lload_n hx hb dJ13_bitCount_95d88_41 rfl (lv_at hl 0 rfl) ?_
  refine lv_lload_n hx hb dJ13_bitCount_95d88_42 rfl (lv_at hl 0 rfl) ?_
  refine lv_bipush (v := 16) hx hb dJ13_bitCount_95d88_43 (by decide) ?_
  refine lv_lushr hx hb dJ13_bitCount_95d88_45 rfl ?_
  refine lv_topl (fun x13 ex13 => ?_)
  refine lv_ladd hx hb dJ13_bitCount_95d88_46 ?_
  refine lv_topl (fun x14 ex14 => ?_)
  refine lv_lstore_n (lv' := [(0, .long x14)]) hx hb dJ13_bitCount_95d88_47 rfl hl (by decide) rfl (fun ls hl => ?_)
  refine lv_lload_n hx hb dJ13_bitCount_95d88_48 rfl (lv_at hl 0 rfl) ?_
  refine lv_lload_n hx hb dJ13_bitCount_95d88_49 rfl (lv_at hl 0 rfl) ?_
  refine lv_bipush (v := 32) hx hb dJ13_bitCount_95d88_50 (by decide) ?_
  refine lv_lushr hx hb dJ13_bitCount_95d88_52 rfl ?_
  refine lv_topl (fun x15 ex15 => ?_)
  refine lv_ladd hx hb dJ13_bitCount_95d88_53 ?_
  refine lv_topl (fun x16 ex16 => ?_)
  refine lv_lstore_n (lv' := [(0, .long x16)]) hx hb dJ13_bitCount_95d88_54 rfl hl (by decide) rfl (fun ls hl => ?_)
  refine lv_lload_n hx hb dJ13_bitCount_95d88_55 rfl (lv_at hl 0 rfl) ?_
  refine lv_l2i hx hb dJ13_bitCount_95d88_56 rfl ?_
  refine lv_topi (fun x17 ex17 => ?_)
  refine lv_bipush (v := 127) hx hb dJ13_bitCount_95d88_57 (by decide) ?_
  refine lv_iand hx hb dJ13_bitCount_95d88_59 ?_
  refine lv_topi (fun x18 ex18 => ?_)
  refine we_i hx hb hr hlocks hw ?_ dJ13_bitCount_95d88_60
  exact ⟨bc_all ex1 ex2 ex3 ex4 ex5 ex6 ex7 ex8 ex9 ex10 ex11 ex12 ex13 ex14 ex15 ex16 ex17 ex18, rfl⟩

set_option maxHeartbeats 4000000 in
set_option maxRecDepth 100000 in
/-- addValue -/
theorem kX0_addValue (l : Launch) (dC : Nat → ClassId) (dI : Nat → Nat → Nat) (q : ClassId × ClassId × ClassId × ClassId) (ad : Nat → Nat) (en : Nat → va_E) (n sz : Nat) (b : Nat) (hbn : b + 4 < n) (A : Ast) (hok : Aok A) (hH : HoldAt q ad en b A) (v : Int64) :
    Met l yX0_addValue wsX0_addValue ({ frames := 0, cells := 0, slots := 0, locals := 0 }) (wPc (dC, dI) vwCl (wT q) ad en n sz [.ref (ad b), .long v]) (va_Qi (fun (r : Int32) (en' : Nat → va_E) => r = (if aCn A < 20 then 1 else 0) ∧ HoldAt q ad en' b (aAdd v A) ∧ ∀ j, (j < b ∨ b + 5 ≤ j) → en' j = en j) (wB (dC, dI) vwCl (wT q) ad n (wA ad n sz)) (wA ad n sz)) 0 0 (wA ad n sz) := by
  refine Met.ofW (cc := cX0_addValue) (maxL := 3) (ret := (some .boolean)) (by decide) rfl ?_
  intro p e s m args below meth c s₁ B hml hv
  obtain ⟨rfl, hsz, hP, hK, hD0, hE0⟩ := hv
  have hx := B.exec
  have hb := B.bytes
  have hr := B.returns
  have hts := atoms_spec (ws := wsX0_addValue) B.pre
  have hown : s.vm.findClass RX0 = some m.cls := findClass_of_methodNamed B.named
  have hlocks := B.notSynchronized
  have iRX0 : ∀ w ∈ u_ws RX0 TX0 5, w ∈ wsX0_addValue := by decide +kernel
  subst hsz
  have hw := wk_of hP hK hD0 hE0
  generalize wA ad n s.heap.size = AA at hw ⊢
  have hl := lv_entry ([.ref (ad b), .long v]) (n := 3) (Nat.le_of_ble_eq_true rfl)
  rw [lg_entry_eq]
  generalize (lg_sl ([.ref (ad b), .long v]) ++ List.replicate (3 - (lg_sl ([.ref (ad b), .long v])).length) Slot.unset).toArray = ls at hl ⊢
  have hl : lv_has ls 3 [(0, .ref (ad b)), (1, .long v)] := hl
  obtain ⟨mf, hf, tf, vf, h0, h1, h2, h3, h4, hR⟩ := hH
  have hcn := hok.2
  refine lv_aload_n hx hb dX0_addValue_0 rfl (lv_at hl 0 rfl) ?_
  refine wr_get (ci := 1) (C := RX0) (T := TX0) (N := 5) hx hb hts iRX0 hown hw b (by omega) h0 rfl 4 (by decide) (hts (.fieldLink RX0 31 "LibraryDesk$Holdings" "valueCount" "I") (by decide +kernel)) (fun _ h9 => h9) rfl dX0_addValue_1 ?_
  refine lv_bipush (v := 20) hx hb dX0_addValue_4 (by decide) ?_
  refine lv_icmp_lt (tgt := 11) hx hb dX0_addValue_6 (by decide) (fun c6 => ?_) (fun c6 => ?_)
  · have hc6 : aCn A < 20 := (nI_ltI (by omega) (by omega)).mp c6
    refine lv_aload_n hx hb dX0_addValue_11 rfl (lv_at hl 0 rfl) ?_
    refine wr_get (ci := 1) (C := RX0) (T := TX0) (N := 5) hx hb hts iRX0 hown hw b (by omega) h0 rfl 3 (by decide) (hts (.fieldLink RX0 22 "LibraryDesk$Holdings" "values" "[J") (by decide +kernel)) (fun _ h9 => h9) rfl dX0_addValue_12 ?_
    refine lv_aload_n hx hb dX0_addValue_15 rfl (lv_at hl 0 rfl) ?_
    refine wr_get (ci := 1) (C := RX0) (T := TX0) (N := 5) hx hb hts iRX0 hown hw b (by omega) h0 rfl 4 (by decide) (hts (.fieldLink RX0 31 "LibraryDesk$Holdings" "valueCount" "I") (by decide +kernel)) (fun _ h9 => h9) rfl dX0_addValue_16 ?_
    refine lv_lload_n hx hb dX0_addValue_19 rfl (lv_at hl 1 rfl) ?_
    refine wr_last (j := (aCn A)) hx hb hw (b + 4) (by omega) 1 h4 rfl (vp_in_nI (by omega) (by decide)) (nI_clamp (by omega)) dX0_addValue_20 (fun en2 H locs hE1 hw => ?_)
    have he3 : en2 b = .inr (1, [.ref (ad (b + 1)), .ref (ad (b + 2)), .ref (ad (b + 3)), .ref (ad (b + 4)), .int (nI (aCn A))]) := w_ne hE1 (by omega) h0
    have he4 : en2 (b + 1) = .inl (q.1, 8, .inl mf) := w_ne hE1 (by omega) h1
    have he5 : en2 (b + 2) = .inl (q.2.1, 8, .inr (.inl hf)) := w_ne hE1 (by omega) h2
    have he6 : en2 (b + 3) = .inl (q.2.1, 8, .inr (.inl tf)) := w_ne hE1 (by omega) h3
    have he7 : en2 (b + 4) = .inl (q.2.1, 20, .inr (.inl (vp_updL vf ((aCn A)) v))) := w_self hE1
    refine lv_aload_n hx hb dX0_addValue_21 rfl (lv_at hl 0 rfl) ?_
    refine lv_dup hx hb dX0_addValue_22 rfl ?_
    refine wr_get (ci := 1) (C := RX0) (T := TX0) (N := 5) hx hb hts iRX0 hown hw b (by omega) he3 rfl 4 (by decide) (hts (.fieldLink RX0 31 "LibraryDesk$Holdings" "valueCount" "I") (by decide +kernel)) (fun _ h9 => h9) rfl dX0_addValue_23 ?_
    refine lv_iconst (v := 1) hx hb dX0_addValue_26 (by decide) ?_
    refine lv_iadd hx hb dX0_addValue_27 ?_
    refine lv_topi (fun x8 ex8 => ?_)
    have ex8n : x8 = nI (aCn A + 1) := ex8.trans (nI_1 _)
    clear ex8
    subst ex8n
    refine wr_put (ci := 1) (v := .int (nI (aCn A + 1))) (ty := .int) (C := RX0) (T := TX0) (N := 5) hx hb hts iRX0 tyX0 tyX0_ok nmX0 hown hw b (by omega) he3 rfl 4 (by decide) (hts (.fieldLink RX0 31 "LibraryDesk$Holdings" "valueCount" "I") (by decide +kernel)) (fun _ h9 => h9) rfl (by decide +kernel) rfl rfl (Nat.le_of_ble_eq_true rfl) dX0_addValue_28 (fun en10 H locs hE9 hw => ?_)
    have he11 : en10 b = .inr (1, [.ref (ad (b + 1)), .ref (ad (b + 2)), .ref (ad (b + 3)), .ref (ad (b + 4)), .int (nI (aCn A + 1))]) := w_self hE9
    have he12 : en10 (b + 1) = .inl (q.1, 8, .inl mf) := w_ne hE9 (by omega) he4
    have he13 : en10 (b + 2) = .inl (q.2.1, 8, .inr (.inl hf)) := w_ne hE9 (by omega) he5
    have he14 : en10 (b + 3) = .inl (q.2.1, 8, .inr (.inl tf)) := w_ne hE9 (by omega) he6
    have he15 : en10 (b + 4) = .inl (q.2.1, 20, .inr (.inl (vp_updL vf ((aCn A)) v))) := w_ne hE9 (by omega) he7
    refine lv_iconst (v := 1) hx hb dX0_addValue_31 (by decide) ?_
    refine we_z hx hb hr hlocks hw (Or.inr rfl) ?_ dX0_addValue_32
    refine ⟨by rw [if_pos hc6], ⟨_, _, _, _, ?_, he12, he13, he14, he15, RC_add hR hc6 v⟩, fun j hj => (w_fr hE9 (by omega)).trans (w_fr hE1 (by omega))⟩
    rw [aCn_add hc6]
    exact he11
  · have hc6 : ¬ aCn A < 20 := fun h => c6 ((nI_ltI (b := 20) (by omega) (by omega)).mpr h)
    refine lv_iconst (v := 0) hx hb dX0_addValue_9 (by decide) ?_
    refine we_z hx hb hr hlocks hw (Or.inl rfl) ?_ dX0_addValue_10
    refine ⟨by rw [if_neg hc6], ?_, fun j hj => rfl⟩
    rw [aAdd_no hc6]
    exact ⟨mf, hf, tf, vf, h0, h1, h2, h3, h4, hR⟩

set_option maxHeartbeats 4000000 in
set_option maxRecDepth 100000 in
/-- makeNumber -/
theorem kX0_makeNumber (l : Launch) (dC : Nat → ClassId) (dI : Nat → Nat → Nat) (q : ClassId × ClassId × ClassId × ClassId) (ad : Nat → Nat) (en : Nat → va_E) (n sz : Nat) (b : Nat) (hbn : b + 4 < n) (A : Ast) (hok : Aok A) (hH : HoldAt q ad en b A) (k : Nat) (hk : k < 8) :
    Met l yX0_makeNumber wsX0_makeNumber ({ frames := 0, cells := 0, slots := 0, locals := 0 }) (wPc (dC, dI) vwCl (wT q) ad en n sz [.ref (ad b), .int (nI k)]) (va_Qi (fun (r : Int32) (en' : Nat → va_E) => r = (if aMd A k < 40 then 1 else 0) ∧ HoldAt q ad en' b (aMake k A) ∧ ∀ j, (j < b ∨ b + 5 ≤ j) → en' j = en j) (wB (dC, dI) vwCl (wT q) ad n (wA ad n sz)) (wA ad n sz)) 0 0 (wA ad n sz) := by
  refine Met.ofW (cc := cX0_makeNumber) (maxL := 2) (ret := (some .boolean)) (by decide) rfl ?_
  intro p e s m args below meth c s₁ B hml hv
  obtain ⟨rfl, hsz, hP, hK, hD0, hE0⟩ := hv
  have hx := B.exec
  have hb := B.bytes
  have hr := B.returns
  have hts := atoms_spec (ws := wsX0_makeNumber) B.pre
  have hown : s.vm.findClass RX0 = some m.cls := findClass_of_methodNamed B.named
  have hlocks := B.notSynchronized
  have iRX0 : ∀ w ∈ u_ws RX0 TX0 5, w ∈ wsX0_makeNumber := by decide +kernel
  subst hsz
  have hw := wk_of hP hK hD0 hE0
  generalize wA ad n s.heap.size = AA at hw ⊢
  have hl := lv_entry ([.ref (ad b), .int (nI k)]) (n := 2) (Nat.le_of_ble_eq_true rfl)
  rw [lg_entry_eq]
  generalize (lg_sl ([.ref (ad b), .int (nI k)]) ++ List.replicate (2 - (lg_sl ([.ref (ad b), .int (nI k)])).length) Slot.unset).toArray = ls at hl ⊢
  have hl : lv_has ls 2 [(0, .ref (ad b)), (1, .int (nI k))] := hl
  obtain ⟨mf, hf, tf, vf, h0, h1, h2, h3, h4, hR⟩ := hH
  have hcn := hok.2
  have hm40 := (hok.1 k hk).1
  refine lv_aload_n hx hb dX0_makeNumber_0 rfl (lv_at hl 0 rfl) ?_
  refine wr_get (ci := 1) (C := RX0) (T := TX0) (N := 5) hx hb hts iRX0 hown hw b (by omega) h0 rfl 0 (by decide) (hts (.fieldLink RX0 9 "LibraryDesk$Holdings" "made" "[I") (by decide +kernel)) (fun _ h9 => h9) rfl dX0_makeNumber_1 ?_
  refine lv_iload_n hx hb dX0_makeNumber_4 rfl (lv_at hl 1 rfl) ?_
  refine wr_iald (v := nI (aMd A k)) hx hb hw (b + 1) (by omega) 0 h1 rfl (vp_in_nI (by omega) (by decide)) (by rw [(nI_clamp (by omega))]; exact (hR.1 k hk).1) dX0_makeNumber_5 ?_
  refine lv_bipush (v := 40) hx hb dX0_makeNumber_6 (by decide) ?_
  refine lv_icmp_lt (tgt := 13) hx hb dX0_makeNumber_8 (by decide) (fun c8 => ?_) (fun c8 => ?_)
  · have hc6 : aMd A k < 40 := (nI_ltI (by omega) (by omega)).mp c8
    refine lv_aload_n hx hb dX0_makeNumber_13 rfl (lv_at hl 0 rfl) ?_
    refine wr_get (ci := 1) (C := RX0) (T := TX0) (N := 5) hx hb hts iRX0 hown hw b (by omega) h0 rfl 0 (by decide) (hts (.fieldLink RX0 9 "LibraryDesk$Holdings" "made" "[I") (by decide +kernel)) (fun _ h9 => h9) rfl dX0_makeNumber_14 ?_
    refine lv_iload_n hx hb dX0_makeNumber_17 rfl (lv_at hl 1 rfl) ?_
    refine lv_dup2_11 hx hb dX0_makeNumber_18 rfl rfl ?_
    refine wr_iald (v := nI (aMd A k)) hx hb hw (b + 1) (by omega) 0 h1 rfl (vp_in_nI (by omega) (by decide)) (by rw [(nI_clamp (by omega))]; exact (hR.1 k hk).1) dX0_makeNumber_19 ?_
    refine lv_iconst (v := 1) hx hb dX0_makeNumber_20 (by decide) ?_
    refine lv_iadd hx hb dX0_makeNumber_21 ?_
    refine lv_topi (fun x1 ex1 => ?_)
    have ex1n : x1 = nI (aMd A k + 1) := ex1.trans (nI_1 _)
    clear ex1
    subst ex1n
    refine wr_iast (j := k) hx hb hw (b + 1) (by omega) 0 h1 rfl (vp_in_nI (by omega) (by decide)) (nI_clamp (by omega)) dX0_makeNumber_22 (fun en3 H locs hE2 hw => ?_)
    have he4 : en3 b = .inr (1, [.ref (ad (b + 1)), .ref (ad (b + 2)), .ref (ad (b + 3)), .ref (ad (b + 4)), .int (nI (aCn A))]) := w_ne hE2 (by omega) h0
    have he5 : en3 (b + 1) = .inl (q.1, 8, .inl (upd mf k (nI (aMd A k + 1)))) := w_self hE2
    have he6 : en3 (b + 2) = .inl (q.2.1, 8, .inr (.inl hf)) := w_ne hE2 (by omega) h2
    have he7 : en3 (b + 3) = .inl (q.2.1, 8, .inr (.inl tf)) := w_ne hE2 (by omega) h3
    have he8 : en3 (b + 4) = .inl (q.2.1, 20, .inr (.inl vf)) := w_ne hE2 (by omega) h4
    refine lv_aload_n hx hb dX0_makeNumber_23 rfl (lv_at hl 0 rfl) ?_
    refine wr_get (ci := 1) (C := RX0) (T := TX0) (N := 5) hx hb hts iRX0 hown hw b (by omega) he4 rfl 1 (by decide) (hts (.fieldLink RX0 15 "LibraryDesk$Holdings" "hereBits" "[J") (by decide +kernel)) (fun _ h9 => h9) rfl dX0_makeNumber_24 ?_
    refine lv_iload_n hx hb dX0_makeNumber_27 rfl (lv_at hl 1 rfl) ?_
    refine lv_dup2_11 hx hb dX0_makeNumber_28 rfl rfl ?_
    refine wr_lald (v := hf k) hx hb hw (b + 2) (by omega) 1 he6 rfl (vp_in_nI (by omega) (by decide)) (by rw [(nI_clamp (by omega))]) dX0_makeNumber_29 ?_
    refine lv_lconst (v := 1) hx hb dX0_makeNumber_30 (by decide) ?_
    refine lv_aload_n hx hb dX0_makeNumber_31 rfl (lv_at hl 0 rfl) ?_
    refine wr_get (ci := 1) (C := RX0) (T := TX0) (N := 5) hx hb hts iRX0 hown hw b (by omega) he4 rfl 0 (by decide) (hts (.fieldLink RX0 9 "LibraryDesk$Holdings" "made" "[I") (by decide +kernel)) (fun _ h9 => h9) rfl dX0_makeNumber_32 ?_
    refine lv_iload_n hx hb dX0_makeNumber_35 rfl (lv_at hl 1 rfl) ?_
    refine wr_iald (v := nI (aMd A k + 1)) hx hb hw (b + 1) (by omega) 0 he5 rfl (vp_in_nI (by omega) (by decide)) (by rw [(nI_clamp (by omega))]; exact pk_us) dX0_makeNumber_36 ?_
    refine lv_lshl hx hb dX0_makeNumber_37 rfl ?_
    refine lv_topl (fun x9 ex9 => ?_)
    have ex9n : x9 = (1 : Int64) <<< ((nI (aMd A k + 1)).toInt64 &&& 63) := ex9.trans (rfl)
    clear ex9
    subst ex9n
    refine lv_lor hx hb dX0_makeNumber_38 ?_
    refine lv_topl (fun x10 ex10 => ?_)
    have ex10n : x10 = hf k ||| ((1 : Int64) <<< ((nI (aMd A k + 1)).toInt64 &&& 63)) := ex10.trans (rfl)
    clear ex10
    subst ex10n
    refine wr_last (j := k) hx hb hw (b + 2) (by omega) 1 he6 rfl (vp_in_nI (by omega) (by decide)) (nI_clamp (by omega)) dX0_makeNumber_39 (fun en12 H locs hE11 hw => ?_)
    have he13 : en12 b = .inr (1, [.ref (ad (b + 1)), .ref (ad (b + 2)), .ref (ad (b + 3)), .ref (ad (b + 4)), .int (nI (aCn A))]) := w_ne hE11 (by omega) he4
    have he14 : en12 (b + 1) = .inl (q.1, 8, .inl (upd mf k (nI (aMd A k + 1)))) := w_ne hE11 (by omega) he5
    have he15 : en12 (b + 2) = .inl (q.2.1, 8, .inr (.inl (vp_updL hf k (hf k ||| ((1 : Int64) <<< ((nI (aMd A k + 1)).toInt64 &&& 63)))))) := w_self hE11
    have he16 : en12 (b + 3) = .inl (q.2.1, 8, .inr (.inl tf)) := w_ne hE11 (by omega) he7
    have he17 : en12 (b + 4) = .inl (q.2.1, 20, .inr (.inl vf)) := w_ne hE11 (by omega) he8
    refine lv_iconst (v := 1) hx hb dX0_makeNumber_40 (by decide) ?_
    refine we_z hx hb hr hlocks hw (Or.inr rfl) ?_ dX0_makeNumber_41
    refine ⟨by rw [if_pos hc6], ⟨_, _, _, _, ?_, he14, he15, he16, he17, RC_make hR hk hc6⟩, fun j hj => (w_fr hE11 (by omega)).trans (w_fr hE2 (by omega))⟩
    rw [aCn_make]
    exact he13
  · have hc6 : ¬ aMd A k < 40 := fun h => c8 ((nI_ltI (b := 40) (by omega) (by omega)).mpr h)
    refine lv_iconst (v := 0) hx hb dX0_makeNumber_11 (by decide) ?_
    refine we_z hx hb hr hlocks hw (Or.inl rfl) ?_ dX0_makeNumber_12
    refine ⟨by rw [if_neg hc6], ?_, fun j hj => rfl⟩
    rw [aMake_no hc6]
    exact ⟨mf, hf, tf, vf, h0, h1, h2, h3, h4, hR⟩

set_option maxHeartbeats 4000000 in
set_option maxRecDepth 100000 in
theorem kX0_isHere (l : Launch) (dC : Nat → ClassId) (dI : Nat → Nat → Nat) (q : ClassId × ClassId × ClassId × ClassId) (ad : Nat → Nat) (en : Nat → va_E) (n sz : Nat) (b : Nat) (hbn : b + 4 < n) (A : Ast) (hok : Aok A) (hH : HoldAt q ad en b A) (kd z : Int32) :
    Met l yX0_isHere wsX0_isHere ({ frames := 1, cells := 0, slots := 0, locals := 20 }) (wPc (dC, dI) vwCl (wT q) ad en n sz [.ref (ad b), .int kd, .int z]) (va_Qi (fun (r : Int32) (en' : Nat → va_E) => r = (if aIs kd z A = true then 1 else 0) ∧ en' = en) (wB (dC, dI) vwCl (wT q) ad n (wA ad n sz)) (wA ad n sz)) 0 0 (wA ad n sz) := by
  refine Met.ofW (cc := cX0_isHere) (maxL := 3) (ret := (some .boolean)) (by decide) rfl ?_
  intro p e s m args below meth c s₁ B hml hv
  obtain ⟨rfl, hsz, hP, hK, hD0, hE0⟩ := hv
  have hx := B.exec
  have hb := B.bytes
  have hr := B.returns
  have hts := atoms_spec (ws := wsX0_isHere) B.pre
  have hown : s.vm.findClass RX0 = some m.cls := findClass_of_methodNamed B.named
  have hlocks := B.notSynchronized
  have iRX0 : ∀ w ∈ u_ws RX0 TX0 5, w ∈ wsX0_isHere := by decide +kernel
  subst hsz
  have hw := wk_of hP hK hD0 hE0
  generalize wA ad n s.heap.size = AA at hw ⊢
  have hl := lv_entry ([.ref (ad b), .int kd, .int z]) (n := 3) (Nat.le_of_ble_eq_true rfl)
  rw [lg_entry_eq]
  generalize (lg_sl ([.ref (ad b), .int kd, .int z]) ++ List.replicate (3 - (lg_sl ([.ref (ad b), .int kd, .int z])).length) Slot.unset).toArray = ls at hl ⊢
  have hl : lv_has ls 3 [(0, .ref (ad b)), (1, .int kd), (2, .int z)] := hl
  obtain ⟨mf, hf, tf, vf, h0, h1, h2, h3, h4, hR⟩ := hH
  have hcn := hok.2
  refine lv_iload_n hx hb dX0_isHere_0 rfl (lv_at hl 1 rfl) ?_
  refine wc_i hw (va_runSN (As := [.int kd]) (rest := []) ⟨hx, hb, hml, hown, hts⟩ (kX2_isKind l dC dI q ad en n _ kd) ⟨va_cnB 1 hts gX0_isHere_X2_isKind_n35 rfl rfl rfl hw.2.2.2.2.2.1 (hts (.initialized RX2) (by decide +kernel)) (by decide +kernel) ⟨Nat.le_of_ble_eq_true rfl, Nat.le_of_ble_eq_true rfl⟩, hts (.static yX2_isKind) (by decide +kernel), trivial⟩ (wk_preS hw) rfl rfl hl.1 rfl (lv_room (Nat.le_of_ble_eq_true rfl)) dX0_isHere_1 ⟨Nat.le_refl _, Nat.le_refl _⟩) (fun r1 en3 H locs hp2 hw => ?_)
  obtain ⟨hr4, hn5⟩ := hp2
  rw [hn5] at hw
  clear hn5
  refine lv_if_eq (tgt := 37) hx hb dX0_isHere_4 (by decide) (fun c4 => ?_) (fun c4 => ?_)
  · have hk0 := z01_f hr4 c4
    refine lv_iconst (v := 0) hx hb dX0_isHere_37 (by decide) ?_
    refine we_z hx hb hr hlocks hw (Or.inl rfl) ?_ dX0_isHere_38
    exact ⟨by rw [if_neg (by rw [aIs_k hk0]; decide)], rfl⟩
  · have hk0 := z01_t hr4 c4
    obtain ⟨k, hk, hkd⟩ : ∃ k, k < 8 ∧ kd = nI k := (kd_cases kd (by decide)).resolve_right (fun h => h hk0)
    subst hkd
    refine lv_iload_n hx hb dX0_isHere_7 rfl (lv_at hl 2 rfl) ?_
    refine lv_iconst (v := 1) hx hb dX0_isHere_8 (by decide) ?_
    refine lv_icmp_lt (tgt := 37) hx hb dX0_isHere_9 (by decide) (fun c9 => ?_) (fun c9 => ?_)
    · refine lv_iconst (v := 0) hx hb dX0_isHere_37 (by decide) ?_
      refine we_z hx hb hr hlocks hw (Or.inl rfl) ?_ dX0_isHere_38
      exact ⟨by rw [if_neg (by rw [aIs_z (fun h => absurd c9 (Int32.not_lt.mpr h.1))]; decide)], rfl⟩
    · refine lv_iload_n hx hb dX0_isHere_12 rfl (lv_at hl 2 rfl) ?_
      refine lv_bipush (v := 40) hx hb dX0_isHere_13 (by decide) ?_
      refine lv_icmp_gt (tgt := 37) hx hb dX0_isHere_15 (by decide) (fun c15 => ?_) (fun c15 => ?_)
      · refine lv_iconst (v := 0) hx hb dX0_isHere_37 (by decide) ?_
        refine we_z hx hb hr hlocks hw (Or.inl rfl) ?_ dX0_isHere_38
        exact ⟨by rw [if_neg (by rw [aIs_z (fun h => absurd c15 (Int32.not_lt.mpr h.2))]; decide)], rfl⟩
      · obtain ⟨y, hy, hyz⟩ : ∃ y, y < 41 ∧ z = nI y := (kd_cases z (by decide)).resolve_right (fun h => h ⟨Int32.le_trans (by decide) (Int32.not_lt.mp c9), Int32.lt_of_le_of_lt (Int32.not_lt.mp c15) (by decide)⟩)
        subst hyz
        have hy1 : 1 ≤ y := (nI_leI (a := 1) (by omega) (by omega)).mp (Int32.not_lt.mp c9)
        have hy40 : y ≤ 40 := by omega
        refine lv_aload_n hx hb dX0_isHere_18 rfl (lv_at hl 0 rfl) ?_
        refine wr_get (ci := 1) (C := RX0) (T := TX0) (N := 5) hx hb hts iRX0 hown hw b (by omega) h0 rfl 1 (by decide) (hts (.fieldLink RX0 15 "LibraryDesk$Holdings" "hereBits" "[J") (by decide +kernel)) (fun _ h9 => h9) rfl dX0_isHere_19 ?_
        refine lv_iload_n hx hb dX0_isHere_22 rfl (lv_at hl 1 rfl) ?_
        refine wr_lald (v := hf k) hx hb hw (b + 2) (by omega) 1 h2 rfl (vp_in_nI (by omega) (by decide)) (by rw [(nI_clamp (by omega))]) dX0_isHere_23 ?_
        refine lv_lconst (v := 1) hx hb dX0_isHere_24 (by decide) ?_
        refine lv_iload_n hx hb dX0_isHere_25 rfl (lv_at hl 2 rfl) ?_
        refine lv_lshl hx hb dX0_isHere_26 rfl ?_
        refine lv_topl (fun x6 ex6 => ?_)
        have ex6n : x6 = (1 : Int64) <<< ((nI y).toInt64 &&& 63) := ex6.trans (rfl)
        clear ex6
        subst ex6n
        refine lv_land hx hb dX0_isHere_27 ?_
        refine lv_topl (fun x7 ex7 => ?_)
        have ex7n : x7 = hf k &&& ((1 : Int64) <<< ((nI y).toInt64 &&& 63)) := ex7.trans (rfl)
        clear ex7
        subst ex7n
        refine lv_lconst (v := 0) hx hb dX0_isHere_28 (by decide) ?_
        refine W.lcmp hx hb dX0_isHere_29 ?_
        refine lv_if_eq (tgt := 37) hx hb dX0_isHere_30 (by decide) (fun c30 => ?_) (fun c30 => ?_)
        · refine lv_iconst (v := 0) hx hb dX0_isHere_37 (by decide) ?_
          refine we_z hx hb hr hlocks hw (Or.inl rfl) ?_ dX0_isHere_38
          have e1 := (bL_test (hf k) (j := y) (by omega)).mp ((lg_cmp_eq _ _).mp c30)
          rw [(hR.1 k hk).2.2 y (by omega)] at e1
          exact ⟨by rw [aIs_nI hk hy1 hy40, e1]; rfl, rfl⟩
        · refine lv_iconst (v := 1) hx hb dX0_isHere_33 (by decide) ?_
          refine lv_goto (tgt := 38) hx hb dX0_isHere_34 (by decide) ?_
          refine we_z hx hb hr hlocks hw (Or.inr rfl) ?_ dX0_isHere_38
          have e1 : ¬ bL (hf k) y = false := fun h => c30 ((lg_cmp_eq _ _).mpr ((bL_test (hf k) (j := y) (by omega)).mpr h))
          rw [(hR.1 k hk).2.2 y (by omega)] at e1
          exact ⟨by rw [aIs_nI hk hy1 hy40, if_pos (by simpa using e1)], rfl⟩

set_option maxHeartbeats 4000000 in
set_option maxRecDepth 100000 in
theorem kX0_dropNumber (l : Launch) (dC : Nat → ClassId) (dI : Nat → Nat → Nat) (q : ClassId × ClassId × ClassId × ClassId) (ad : Nat → Nat) (en : Nat → va_E) (n sz : Nat) (b : Nat) (hbn : b + 4 < n) (A : Ast) (hok : Aok A) (hH : HoldAt q ad en b A) (kd z : Int32) :
    Met l yX0_dropNumber wsX0_dropNumber ({ frames := 2, cells := 0, slots := 0, locals := 42 }) (wPc (dC, dI) vwCl (wT q) ad en n sz [.ref (ad b), .int kd, .int z]) (va_Qi (fun (r : Int32) (en' : Nat → va_E) => r = (if aIs kd z A = true then 1 else 0) ∧ HoldAt q ad en' b (aDropI kd z A) ∧ ∀ j, (j < b ∨ b + 5 ≤ j) → en' j = en j) (wB (dC, dI) vwCl (wT q) ad n (wA ad n sz)) (wA ad n sz)) 0 0 (wA ad n sz) := by
  refine Met.ofW (cc := cX0_dropNumber) (maxL := 3) (ret := (some .boolean)) (by decide) rfl ?_
  intro p e s m args below meth c s₁ B hml hv
  obtain ⟨rfl, hsz, hP, hK, hD0, hE0⟩ := hv
  have hx := B.exec
  have hb := B.bytes
  have hr := B.returns
  have hts := atoms_spec (ws := wsX0_dropNumber) B.pre
  have hown : s.vm.findClass RX0 = some m.cls := findClass_of_methodNamed B.named
  have hlocks := B.notSynchronized
  have iRX0 : ∀ w ∈ u_ws RX0 TX0 5, w ∈ wsX0_dropNumber := by decide +kernel
  subst hsz
  have hw := wk_of hP hK hD0 hE0
  generalize wA ad n s.heap.size = AA at hw ⊢
  have hl := lv_entry ([.ref (ad b), .int kd, .int z]) (n := 3) (Nat.le_of_ble_eq_true rfl)
  rw [lg_entry_eq]
  generalize (lg_sl ([.ref (ad b), .int kd, .int z]) ++ List.replicate (3 - (lg_sl ([.ref (ad b), .int kd, .int z])).length) Slot.unset).toArray = ls at hl ⊢
  have hl : lv_has ls 3 [(0, .ref (ad b)), (1, .int kd), (2, .int z)] := hl
  have hH1 := hH
  obtain ⟨mf, hf, tf, vf, h0, h1, h2, h3, h4, hR⟩ := hH
  have hcn := hok.2
  refine lv_aload_n hx hb dX0_dropNumber_0 rfl (lv_at hl 0 rfl) ?_
  refine lv_iload_n hx hb dX0_dropNumber_1 rfl (lv_at hl 1 rfl) ?_
  refine lv_iload_n hx hb dX0_dropNumber_2 rfl (lv_at hl 2 rfl) ?_
  refine wc_i hw (va_runV (As := [.int kd, .int z]) (rest := []) ⟨hx, hb, hml, hown, hts⟩ (kX0_isHere l dC dI q ad en n _ b hbn A hok hH1 kd z) (cwV 2 hts gX0_dropNumber_X0_isHere rfl rfl rfl (by decide +kernel) ⟨Nat.le_of_ble_eq_true rfl, Nat.le_of_ble_eq_true rfl⟩) (wk_preV hw (by omega) h0 rfl) rfl rfl hl.1 rfl (lv_room (Nat.le_of_ble_eq_true rfl)) dX0_dropNumber_3 ⟨Nat.le_refl _, Nat.le_refl _⟩) (fun r1 en3 H locs hp2 hw => ?_)
  obtain ⟨hr4, hn5⟩ := hp2
  rw [hn5] at hw
  clear hn5
  refine lv_if_ne (tgt := 11) hx hb dX0_dropNumber_6 (by decide) (fun c6 => ?_) (fun c6 => ?_)
  · have hi := z01_t hr4 c6
    obtain ⟨k, y, hk, hy1, hy40, hkd, hyz, hhr⟩ := aIs_in hi
    subst hkd
    subst hyz
    refine lv_aload_n hx hb dX0_dropNumber_11 rfl (lv_at hl 0 rfl) ?_
    refine wr_get (ci := 1) (C := RX0) (T := TX0) (N := 5) hx hb hts iRX0 hown hw b (by omega) h0 rfl 1 (by decide) (hts (.fieldLink RX0 15 "LibraryDesk$Holdings" "hereBits" "[J") (by decide +kernel)) (fun _ h9 => h9) rfl dX0_dropNumber_12 ?_
    refine lv_iload_n hx hb dX0_dropNumber_15 rfl (lv_at hl 1 rfl) ?_
    refine lv_dup2_11 hx hb dX0_dropNumber_16 rfl rfl ?_
    refine wr_lald (v := hf k) hx hb hw (b + 2) (by omega) 1 h2 rfl (vp_in_nI (by omega) (by decide)) (by rw [(nI_clamp (by omega))]) dX0_dropNumber_17 ?_
    refine lv_lconst (v := 1) hx hb dX0_dropNumber_18 (by decide) ?_
    refine lv_iload_n hx hb dX0_dropNumber_19 rfl (lv_at hl 2 rfl) ?_
    refine lv_lshl hx hb dX0_dropNumber_20 rfl ?_
    refine lv_topl (fun x6 ex6 => ?_)
    have ex6n : x6 = (1 : Int64) <<< ((nI y).toInt64 &&& 63) := ex6.trans (rfl)
    clear ex6
    subst ex6n
    refine lv_ldc2 (v := (-1)) hx hb hown (hts (.constantLong RX0 43 (-1)) (by decide +kernel)) dX0_dropNumber_21 ?_
    refine lv_lxor hx hb dX0_dropNumber_24 ?_
    refine lv_topl (fun x7 ex7 => ?_)
    have ex7n : x7 = ((1 : Int64) <<< ((nI y).toInt64 &&& 63)) ^^^ (-1) := ex7.trans (rfl)
    clear ex7
    subst ex7n
    refine lv_land hx hb dX0_dropNumber_25 ?_
    refine lv_topl (fun x8 ex8 => ?_)
    have ex8n : x8 = hf k &&& (((1 : Int64) <<< ((nI y).toInt64 &&& 63)) ^^^ (-1)) := ex8.trans (rfl)
    clear ex8
    subst ex8n
    refine wr_last (j := k) hx hb hw (b + 2) (by omega) 1 h2 rfl (vp_in_nI (by omega) (by decide)) (nI_clamp (by omega)) dX0_dropNumber_26 (fun en10 H locs hE9 hw => ?_)
    have he11 : en10 b = .inr (1, [.ref (ad (b + 1)), .ref (ad (b + 2)), .ref (ad (b + 3)), .ref (ad (b + 4)), .int (nI (aCn A))]) := w_ne hE9 (by omega) h0
    have he12 : en10 (b + 1) = .inl (q.1, 8, .inl mf) := w_ne hE9 (by omega) h1
    have he13 : en10 (b + 2) = .inl (q.2.1, 8, .inr (.inl (vp_updL hf k (hf k &&& (((1 : Int64) <<< ((nI y).toInt64 &&& 63)) ^^^ (-1)))))) := w_self hE9
    have he14 : en10 (b + 3) = .inl (q.2.1, 8, .inr (.inl tf)) := w_ne hE9 (by omega) h3
    have he15 : en10 (b + 4) = .inl (q.2.1, 20, .inr (.inl vf)) := w_ne hE9 (by omega) h4
    refine lv_iconst (v := 1) hx hb dX0_dropNumber_27 (by decide) ?_
    refine we_z hx hb hr hlocks hw (Or.inr rfl) ?_ dX0_dropNumber_28
    refine ⟨by rw [if_pos hi], ?_, fun j hj => w_fr hE9 (by omega)⟩
    rw [aDropI_nI hk hy1 hy40 hhr]
    exact ⟨_, _, _, _, he11, he12, he13, he14, he15, RC_drop hR hk (by omega)⟩
  · have hi := z01_f hr4 c6
    refine lv_iconst (v := 0) hx hb dX0_dropNumber_9 (by decide) ?_
    refine we_z hx hb hr hlocks hw (Or.inl rfl) ?_ dX0_dropNumber_10
    refine ⟨by rw [if_neg hi], ?_, fun j hj => rfl⟩
    rw [aDropI_no hi]
    exact hH1

set_option maxHeartbeats 4000000 in
set_option maxRecDepth 100000 in
theorem kX0_countHere (l : Launch) (dC : Nat → ClassId) (dI : Nat → Nat → Nat) (q : ClassId × ClassId × ClassId × ClassId) (ad : Nat → Nat) (en : Nat → va_E) (n sz : Nat) (b : Nat) (hbn : b + 4 < n) (A : Ast) (hok : Aok A) (hH : HoldAt q ad en b A) (k : Nat) (hk : k < 8) :
    Met l yX0_countHere wsX0_countHere ({ frames := 1, cells := 0, slots := 0, locals := 21 }) (wPc (dC, dI) vwCl (wT q) ad en n sz [.ref (ad b), .int (nI k)]) (va_Qi (fun (r : Int32) (en' : Nat → va_E) => r = nI (cn (aHr A k) 40) ∧ en' = en) (wB (dC, dI) vwCl (wT q) ad n (wA ad n sz)) (wA ad n sz)) 0 0 (wA ad n sz) := by
  refine Met.ofW (cc := cX0_countHere) (maxL := 2) (ret := (some .int)) (by decide) rfl ?_
  intro p e s m args below meth c s₁ B hml hv
  obtain ⟨rfl, hsz, hP, hK, hD0, hE0⟩ := hv
  have hx := B.exec
  have hb := B.bytes
  have hr := B.returns
  have hts := atoms_spec (ws := wsX0_countHere) B.pre
  have hown : s.vm.findClass RX0 = some m.cls := findClass_of_methodNamed B.named
  have hlocks := B.notSynchronized
  have iRX0 : ∀ w ∈ u_ws RX0 TX0 5, w ∈ wsX0_countHere := by decide +kernel
  subst hsz
  have hw := wk_of hP hK hD0 hE0
  generalize wA ad n s.heap.size = AA at hw ⊢
  have hl := lv_entry ([.ref (ad b), .int (nI k)]) (n := 2) (Nat.le_of_ble_eq_true rfl)
  rw [lg_entry_eq]
  generalize (lg_sl ([.ref (ad b), .int (nI k)]) ++ List.replicate (2 - (lg_sl ([.ref (ad b), .int (nI k)])).length) Slot.unset).toArray = ls at hl ⊢
  have hl : lv_has ls 2 [(0, .ref (ad b)), (1, .int (nI k))] := hl
  obtain ⟨mf, hf, tf, vf, h0, h1, h2, h3, h4, hR⟩ := hH
  have hcn := hok.2
  refine lv_aload_n hx hb dX0_countHere_0 rfl (lv_at hl 0 rfl) ?_
  refine wr_get (ci := 1) (C := RX0) (T := TX0) (N := 5) hx hb hts iRX0 hown hw b (by omega) h0 rfl 1 (by decide) (hts (.fieldLink RX0 15 "LibraryDesk$Holdings" "hereBits" "[J") (by decide +kernel)) (fun _ h9 => h9) rfl dX0_countHere_1 ?_
  refine lv_iload_n hx hb dX0_countHere_4 rfl (lv_at hl 1 rfl) ?_
  refine wr_lald (v := hf k) hx hb hw (b + 2) (by omega) 1 h2 rfl (vp_in_nI (by omega) (by decide)) (by rw [(nI_clamp (by omega))]) dX0_countHere_5 ?_
  refine wc_i hw (va_runS (As := [.long (hf k)]) (rest := []) ⟨hx, hb, hml, hown, hts⟩ (kJ13_bitCount_95d88 l dC dI q ad en n _ (hf k)) (va_cwS 1 hts gX0_countHere_J13_bitCount_95d88 rfl rfl rfl (by decide +kernel) ⟨Nat.le_of_ble_eq_true rfl, Nat.le_of_ble_eq_true rfl⟩) (wk_preS hw) rfl rfl hl.1 rfl (lv_room (Nat.le_of_ble_eq_true rfl)) dX0_countHere_6 ⟨Nat.le_refl _, Nat.le_refl _⟩) (fun r1 en3 H locs hp2 hw => ?_)
  obtain ⟨hr4, hn5⟩ := hp2
  rw [hn5] at hw
  clear hn5
  refine we_i hx hb hr hlocks hw ?_ dX0_countHere_9
  have hm40 := hok.1 k hk
  refine ⟨?_, rfl⟩
  rw [hr4, count_bits (hR.1 k hk).2.2 (fun j hj => ⟨(hm40.2 j hj).1, Nat.le_trans (hm40.2 j hj).2 hm40.1⟩)]

set_option maxHeartbeats 4000000 in
set_option maxRecDepth 100000 in
theorem kX0_greatestHere (l : Launch) (dC : Nat → ClassId) (dI : Nat → Nat → Nat) (q : ClassId × ClassId × ClassId × ClassId) (ad : Nat → Nat) (en : Nat → va_E) (n sz : Nat) (b : Nat) (hbn : b + 4 < n) (A : Ast) (hok : Aok A) (hH : HoldAt q ad en b A) (k : Nat) (hk : k < 8) :
    Met l yX0_greatestHere wsX0_greatestHere ({ frames := 2, cells := 0, slots := 0, locals := 42 }) (wPc (dC, dI) vwCl (wT q) ad en n sz [.ref (ad b), .int (nI k)]) (va_Qi (fun (r : Int32) (en' : Nat → va_E) => r = (if gr (aHr A k) 40 = 0 then -1 else nI (gr (aHr A k) 40)) ∧ en' = en) (wB (dC, dI) vwCl (wT q) ad n (wA ad n sz)) (wA ad n sz)) 0 0 (wA ad n sz) := by
  refine Met.ofW (cc := cX0_greatestHere) (maxL := 3) (ret := (some .int)) (by decide) rfl ?_
  intro p e s m args below meth c s₁ B hml hv
  obtain ⟨rfl, hsz, hP, hK, hD0, hE0⟩ := hv
  have hx := B.exec
  have hb := B.bytes
  have hr := B.returns
  have hts := atoms_spec (ws := wsX0_greatestHere) B.pre
  have hown : s.vm.findClass RX0 = some m.cls := findClass_of_methodNamed B.named
  have hlocks := B.notSynchronized
  have iRX0 : ∀ w ∈ u_ws RX0 TX0 5, w ∈ wsX0_greatestHere := by decide +kernel
  subst hsz
  have hw := wk_of hP hK hD0 hE0
  generalize wA ad n s.heap.size = AA at hw ⊢
  have hl := lv_entry ([.ref (ad b), .int (nI k)]) (n := 3) (Nat.le_of_ble_eq_true rfl)
  rw [lg_entry_eq]
  generalize (lg_sl ([.ref (ad b), .int (nI k)]) ++ List.replicate (3 - (lg_sl ([.ref (ad b), .int (nI k)])).length) Slot.unset).toArray = ls at hl ⊢
  have hl : lv_has ls 3 [(0, .ref (ad b)), (1, .int (nI k))] := hl
  have hH1 := hH
  obtain ⟨mf, hf, tf, vf, h0, h1, h2, h3, h4, hR⟩ := hH
  have hcn := hok.2
  have hm40 := hok.1 k hk
  have hg_no : ∀ j, aMd A k < j → aHr A k j = false := fun j h1 => by
    cases hj : aHr A k j with
    | false => rfl
    | true => have := (hm40.2 j hj).2; omega
  refine lv_aload_n hx hb dX0_greatestHere_0 rfl (lv_at hl 0 rfl) ?_
  refine wr_get (ci := 1) (C := RX0) (T := TX0) (N := 5) hx hb hts iRX0 hown hw b (by omega) h0 rfl 0 (by decide) (hts (.fieldLink RX0 9 "LibraryDesk$Holdings" "made" "[I") (by decide +kernel)) (fun _ h9 => h9) rfl dX0_greatestHere_1 ?_
  refine lv_iload_n hx hb dX0_greatestHere_4 rfl (lv_at hl 1 rfl) ?_
  refine wr_iald (v := nI (aMd A k)) hx hb hw (b + 1) (by omega) 0 h1 rfl (vp_in_nI (by omega) (by decide)) (by rw [(nI_clamp (by omega))]; exact (hR.1 k hk).1) dX0_greatestHere_5 ?_
  refine lv_istore_n (lv' := [(2, .int (nI (aMd A k))), (0, .ref (ad b)), (1, .int (nI k))]) hx hb dX0_greatestHere_6 rfl hl (by decide) rfl (fun ls hl => ?_)
  have key : ∀ z : Nat, z ≤ aMd A k → (∀ j, z < j → j ≤ 40 → aHr A k j = false) → ∀ (H : Heap) (locs : List Loc), wk (dC, dI) vwCl (wT q) ad en n AA s H locs → ∀ ls : Array Slot, lv_has ls 3 [(2, .int (nI z)), (0, .ref (ad b)), (1, .int (nI k))] → W p l e (headSpec wsX0_greatestHere ({ frames := 2, cells := 0, slots := 0, locals := 42 })).room s m ([.ref (ad b), .int (nI k)].toArray) below meth c H locs 0 0 (MQ below (va_Qi (fun (r : Int32) (en' : Nat → va_E) => r = (if gr (aHr A k) 40 = 0 then -1 else nI (gr (aHr A k) 40)) ∧ en' = en) (wB (dC, dI) vwCl (wT q) ad n AA) AA) ([.ref (ad b), .int (nI k)].toArray) s 0 0 AA) (F0 m 7 ls []) := by
    intro z
    induction z with
    | zero =>
      intro hz hno H locs hw ls hl
      refine lv_iload_n hx hb dX0_greatestHere_7 rfl (lv_at hl 0 rfl) ?_
      refine lv_iconst (v := 1) hx hb dX0_greatestHere_8 (by decide) ?_
      refine lv_icmp_lt (tgt := 29) hx hb dX0_greatestHere_9 (by decide) (fun c9 => ?_) (fun c9 => ?_)
      · refine lv_iconst (v := (-1)) hx hb dX0_greatestHere_29 (by decide) ?_
        refine we_i hx hb hr hlocks hw ?_ dX0_greatestHere_30
        have e0 : gr (aHr A k) 40 = 0 := gr_up _ 0 40 (by decide) (fun j h1 h2 => hno j h1 h2)
        exact ⟨by rw [if_pos e0], rfl⟩
      · exact absurd (show nI 0 < 1 by decide) c9
    | succ z ih =>
      intro hz hno H locs hw ls hl
      refine lv_iload_n hx hb dX0_greatestHere_7 rfl (lv_at hl 0 rfl) ?_
      refine lv_iconst (v := 1) hx hb dX0_greatestHere_8 (by decide) ?_
      refine lv_icmp_lt (tgt := 29) hx hb dX0_greatestHere_9 (by decide) (fun c9 => ?_) (fun c9 => ?_)
      · exact absurd c9 (Int32.not_lt.mpr (nI_le (a := 1) (by omega) (by omega)))
      · refine lv_aload_n hx hb dX0_greatestHere_12 rfl (lv_at hl 1 rfl) ?_
        refine lv_iload_n hx hb dX0_greatestHere_13 rfl (lv_at hl 2 rfl) ?_
        refine lv_iload_n hx hb dX0_greatestHere_14 rfl (lv_at hl 0 rfl) ?_
        refine wc_i hw (va_runV (As := [.int (nI k), .int (nI (z + 1))]) (rest := []) ⟨hx, hb, hml, hown, hts⟩ (kX0_isHere l dC dI q ad en n _ b hbn A hok hH1 (nI k) (nI (z + 1))) (cwV 2 hts gX0_greatestHere_X0_isHere rfl rfl rfl (by decide +kernel) ⟨Nat.le_of_ble_eq_true rfl, Nat.le_of_ble_eq_true rfl⟩) (wk_preV hw (by omega) h0 rfl) rfl rfl hl.1 rfl (lv_room (Nat.le_of_ble_eq_true rfl)) dX0_greatestHere_15 ⟨Nat.le_refl _, Nat.le_refl _⟩) (fun r1 en3 H locs hp2 hw => ?_)
        obtain ⟨hr4, hn5⟩ := hp2
        rw [hn5] at hw
        clear hn5
        refine lv_if_eq (tgt := 23) hx hb dX0_greatestHere_18 (by decide) (fun c18 => ?_) (fun c18 => ?_)
        · have hi := z01_f hr4 c18
          rw [aIs_nI hk (by omega) (by omega)] at hi
          have hfz : aHr A k (z + 1) = false := by simpa using hi
          refine lv_iinc (v := nI z) (lv' := [(2, .int (nI z)), (0, .ref (ad b)), (1, .int (nI k))]) hx hb dX0_greatestHere_23 hl (k := 0) rfl (nI_pred_add z) (by decide) rfl (fun ls hl => ?_)
          refine lv_goto (tgt := 7) hx hb dX0_greatestHere_26 (by decide) ?_
          exact ih (by omega) (fun j h1 h2 => by
            by_cases e : j = z + 1
            · rw [e]; exact hfz
            · exact hno j (by omega) h2) _ _ hw ls (lv_sub hl [0, 1, 2] rfl)
        · have hi := z01_t hr4 c18
          rw [aIs_nI hk (by omega) (by omega)] at hi
          refine lv_iload_n hx hb dX0_greatestHere_21 rfl (lv_at hl 0 rfl) ?_
          refine we_i hx hb hr hlocks hw ?_ dX0_greatestHere_22
          have e0 : gr (aHr A k) 40 = z + 1 := by
            rw [gr_up _ (z + 1) 40 (by omega) (fun j h1 h2 => hno j h1 h2)]
            unfold gr
            rw [if_pos hi]
          exact ⟨by rw [if_neg (by omega), e0], rfl⟩
  exact key (aMd A k) (Nat.le_refl _) (fun j h1 h2 => hg_no j h1) _ _ hw ls (lv_sub hl [0, 1, 2] rfl)
