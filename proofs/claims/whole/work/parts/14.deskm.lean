theorem sWants_no {c kd : Int32} {pl : Nat → Pst} (h : ¬ (okC c ∧ (kd = -1 ∨ okK kd))) : sWantsR c kd pl = -2 ∧ sWants c kd pl = pl := by
  unfold sWantsR sWants
  rw [if_neg h, if_neg h]
  exact ⟨rfl, rfl⟩
theorem sWants_ok {c : Nat} {kd : Int32} {pl : Nat → Pst} (hc : c < 10) (h : kd = -1 ∨ okK kd) : sWantsR (nI c) kd pl = (pl c).1 ∧ sWants (nI c) kd pl = va_up pl c (kd, (pl c).2) := by
  have h2 : okC (nI c) ∧ (kd = -1 ∨ okK kd) := ⟨okC_nI hc, h⟩
  unfold sWantsR sWants
  rw [if_pos h2, if_pos h2, nI_clamp (by omega)]
  exact ⟨rfl, rfl⟩
theorem sAct_no {c so kd : Int32} {pl : Nat → Pst} (h : ¬ (okC c ∧ okS so ∧ okK kd)) : sActR c so kd pl = -1 ∧ sAct c so kd pl = pl := by
  unfold sActR sAct
  rw [if_neg h, if_neg h]
  exact ⟨rfl, rfl⟩
theorem sAct_ok {c : Nat} {so kd : Int32} {pl : Nat → Pst} (hc : c < 10) (h : okS so ∧ okK kd) : sActR (nI c) so kd pl = (if (pl c).2.1 < 6 then nI ((pl c).2.1 + 1) else -1) ∧ sAct (nI c) so kd pl = va_up pl c (pAdd so kd (pl c)) := by
  have h2 : okC (nI c) ∧ okS so ∧ okK kd := ⟨okC_nI hc, h⟩
  unfold sActR sAct
  rw [if_pos h2, if_pos h2, nI_clamp (by omega)]
  exact ⟨rfl, rfl⟩
theorem pAdd_cn {P : Pst} (h : P.2.1 < 6) (so kd : Int32) : (pAdd so kd P).2.1 = P.2.1 + 1 := by
  unfold pAdd
  rw [if_pos h]
theorem sFails_no {c i x : Int32} {pl : Nat → Pst} (h : ¬ (okC c ∧ (0 ≤ i ∧ i < 6) ∧ (1 ≤ x ∧ x ≤ 5))) : sFailsR c i x = 0 ∧ sFails c i x pl = pl := by
  unfold sFailsR sFails
  rw [if_neg h, if_neg h]
  exact ⟨rfl, rfl⟩
theorem sFails_ok {c : Nat} {i x : Int32} {pl : Nat → Pst} (hc : c < 10) (h : (0 ≤ i ∧ i < 6) ∧ (1 ≤ x ∧ x ≤ 5)) : sFailsR (nI c) i x = 1 ∧ sFails (nI c) i x pl = va_up pl c (pTell i x (pl c)) := by
  have h2 : okC (nI c) ∧ (0 ≤ i ∧ i < 6) ∧ (1 ≤ x ∧ x ≤ 5) := ⟨okC_nI hc, h⟩
  unfold sFailsR sFails
  rw [if_pos h2, if_pos h2, nI_clamp (by omega)]
  exact ⟨rfl, rfl⟩
theorem sMake_no {kd : Int32} {A : Ast} (h : ¬ okK kd) : sMakeR kd A = -1 ∧ sMake kd A = A := by
  unfold sMakeR sMake
  rw [if_neg h, if_neg h]
  exact ⟨rfl, rfl⟩
theorem sMake_ok {k : Nat} {A : Ast} (hk : k < 8) : sMakeR (nI k) A = (if aMd A k < 40 then nI (aMd A k + 1) else -1) ∧ sMake (nI k) A = aMake k A := by
  unfold sMakeR sMake
  rw [if_pos (okK_nI hk), if_pos (okK_nI hk), nI_clamp (by omega)]
  exact ⟨rfl, rfl⟩
theorem aMd_make {k : Nat} {A : Ast} (h : aMd A k < 40) : aMd (aMake k A) k = aMd A k + 1 := by
  unfold aMake
  rw [if_pos h]
  show (if k = k then aMd A k + 1 else aMd A k) = _
  rw [if_pos rfl]
theorem sNum_ok {k : Nat} {A : Ast} (hk : k < 8) : sNumR (nI k) A = nI (cn (aHr A k) 40) := by
  unfold sNumR
  rw [if_pos (okK_nI hk), nI_clamp (by omega)]
theorem sTal_ok {k : Nat} {A : Ast} (hk : k < 8) : sTalR (nI k) A = aTl A k := by
  unfold sTalR
  rw [if_pos (okK_nI hk), nI_clamp (by omega)]
set_option maxHeartbeats 4000000 in
set_option maxRecDepth 100000 in
theorem kX2_collect (l : Launch) (dC : Nat → ClassId) (dI : Nat → Nat → Nat) (q : ClassId × ClassId × ClassId × ClassId) (ad : Nat → Nat) (en : Nat → va_E) (n sz : Nat) (hn42 : 42 ≤ n) (A : Ast) (pl : Nat → Pst) (cs : Nat → Int32) (hok : Aok A) (hpok : ∀ i, i < 10 → Pok (pl i)) (hD : DeskAt q ad en A pl cs) (v : Int64) :
    Met l yX2_collect wsX2_collect ({ frames := 1, cells := 0, slots := 0, locals := 22 }) (wPc (dC, dI) vwCl (wT q) ad en n sz [.ref (ad 0), .long v]) (va_Qi (fun (r : Int32) (en' : Nat → va_E) => r = (if aCn A < 20 then nI (aCn A + 1) else -1) ∧ DeskAt q ad en' (aAdd v A) pl cs ∧ ∀ j, 42 ≤ j → en' j = en j) (wB (dC, dI) vwCl (wT q) ad n (wA ad n sz)) (wA ad n sz)) 0 0 (wA ad n sz) := by
  refine Met.ofW (cc := cX2_collect) (maxL := 3) (ret := (some .int)) (by decide) rfl ?_
  intro p e s m args below meth c s₁ B hml hv
  obtain ⟨rfl, hsz, hP, hK, hD0, hE0⟩ := hv
  have hx := B.exec
  have hb := B.bytes
  have hr := B.returns
  have hts := atoms_spec (ws := wsX2_collect) B.pre
  have hown : s.vm.findClass RX2 = some m.cls := findClass_of_methodNamed B.named
  have hlocks := B.notSynchronized
  have iRX2 : ∀ w ∈ u_ws RX2 TX2 13, w ∈ wsX2_collect := by decide +kernel
  have iRX0 : ∀ w ∈ u_ws RX0 TX0 5, w ∈ wsX2_collect := by decide +kernel
  subst hsz
  have hw := wk_of hP hK hD0 hE0
  generalize wA ad n s.heap.size = AA at hw ⊢
  have hl := lv_entry ([.ref (ad 0), .long v]) (n := 3) (Nat.le_of_ble_eq_true rfl)
  rw [lg_entry_eq]
  generalize (lg_sl ([.ref (ad 0), .long v]) ++ List.replicate (3 - (lg_sl ([.ref (ad 0), .long v])).length) Slot.unset).toArray = ls at hl ⊢
  have hl : lv_has ls 3 [(0, .ref (ad 0)), (1, .long v)] := hl
  obtain ⟨nb, tb, Z, ta, tw, tp, hC⟩ := hD
  obtain ⟨hntt1, dt1, ⟨gt1, et1, hgt1⟩, hpt1, hNt1, hTt1⟩ := id hC
  obtain ⟨mft1, vht1, tft1, vft1, n0t1, n1t1, n2t1, n3t1, n4t1, hRt1⟩ := id hNt1
  have hnt := hntt1
  refine lv_aload_n hx hb dX2_collect_0 rfl (lv_at hl 0 rfl) ?_
  refine wr_get (ci := 3) (C := RX2) (T := TX2) (N := 13) hx hb hts iRX2 hown hw 0 (by omega) dt1 rfl 1 (by decide) (hts (.fieldLink RX2 19 "LibraryDesk" "now" "LLibraryDesk$Holdings;") (by decide +kernel)) (fun _ h9 => h9) rfl dX2_collect_1 ?_
  refine lv_lload_n hx hb dX2_collect_4 rfl (lv_at hl 1 rfl) ?_
  refine wc_i hw (va_runV (As := [.long v]) (rest := []) ⟨hx, hb, hml, hown, hts⟩ (kX0_addValue l dC dI q ad en n _ nb (by omega) A hok hNt1 v) (cwV 1 hts gX2_collect_X0_addValue rfl rfl rfl (by decide +kernel) ⟨Nat.le_of_ble_eq_true rfl, Nat.le_of_ble_eq_true rfl⟩) (wk_preV hw (by omega) n0t1 rfl) rfl rfl hl.1 rfl (lv_room (Nat.le_of_ble_eq_true rfl)) dX2_collect_5 ⟨Nat.le_refl _, Nat.le_refl _⟩) (fun r2 en4 H locs hp3 hw => ?_)
  obtain ⟨hr1, hH1, hfr1⟩ := hp3
  have hC1 := DeskC_now hC hH1 hfr1
  obtain ⟨-, dt5, ⟨gt5, et5, hgt5⟩, hpt5, hNt5, hTt5⟩ := id hC1
  obtain ⟨mft5, vht5, tft5, vft5, n0t5, n1t5, n2t5, n3t5, n4t5, hRt5⟩ := id hNt5
  refine lv_if_eq (tgt := 21) hx hb dX2_collect_8 (by decide) (fun c8 => ?_) (fun c8 => ?_)
  · refine lv_iconst (v := (-1)) hx hb dX2_collect_21 (by decide) ?_
    refine we_i hx hb hr hlocks hw ?_ dX2_collect_22
    exact ⟨by rw [if_neg (z01_f hr1 c8)], ⟨nb, tb, Z, ta, tw, tp, hC1⟩, fun j hj => hfr1 j (by omega)⟩
  · refine lv_aload_n hx hb dX2_collect_11 rfl (lv_at hl 0 rfl) ?_
    refine wr_get (ci := 3) (C := RX2) (T := TX2) (N := 13) hx hb hts iRX2 hown hw 0 (by omega) dt5 rfl 1 (by decide) (hts (.fieldLink RX2 19 "LibraryDesk" "now" "LLibraryDesk$Holdings;") (by decide +kernel)) (fun _ h9 => h9) rfl dX2_collect_12 ?_
    refine wr_get (ci := 1) (C := RX0) (T := TX0) (N := 5) hx hb hts iRX0 hown hw nb (by omega) n0t5 rfl 4 (by decide) (hts (.fieldLink RX2 30 "LibraryDesk$Holdings" "valueCount" "I") (by decide +kernel)) (fun _ h9 => h9) rfl dX2_collect_15 ?_
    refine lv_goto (tgt := 22) hx hb dX2_collect_18 (by decide) ?_
    refine we_i hx hb hr hlocks hw ?_ dX2_collect_22
    have hc8 := z01_t hr1 c8
    exact ⟨by rw [if_pos hc8, aCn_add hc8], ⟨nb, tb, Z, ta, tw, tp, hC1⟩, fun j hj => hfr1 j (by omega)⟩

set_option maxHeartbeats 4000000 in
set_option maxRecDepth 100000 in
theorem kX2_wants (l : Launch) (dC : Nat → ClassId) (dI : Nat → Nat → Nat) (q : ClassId × ClassId × ClassId × ClassId) (ad : Nat → Nat) (en : Nat → va_E) (n sz : Nat) (hn42 : 42 ≤ n) (A : Ast) (pl : Nat → Pst) (cs : Nat → Int32) (hok : Aok A) (hpok : ∀ i, i < 10 → Pok (pl i)) (hD : DeskAt q ad en A pl cs) (cv kd : Int32) :
    Met l yX2_wants wsX2_wants ({ frames := 1, cells := 0, slots := 0, locals := 20 }) (wPc (dC, dI) vwCl (wT q) ad en n sz [.ref (ad 0), .int cv, .int kd]) (va_Qi (fun (r : Int32) (en' : Nat → va_E) => r = sWantsR cv kd pl ∧ DeskAt q ad en' A (sWants cv kd pl) cs ∧ ∀ j, 42 ≤ j → en' j = en j) (wB (dC, dI) vwCl (wT q) ad n (wA ad n sz)) (wA ad n sz)) 0 0 (wA ad n sz) := by
  refine Met.ofW (cc := cX2_wants) (maxL := 4) (ret := (some .int)) (by decide) rfl ?_
  intro p e s m args below meth c s₁ B hml hv
  obtain ⟨rfl, hsz, hP, hK, hD0, hE0⟩ := hv
  have hx := B.exec
  have hb := B.bytes
  have hr := B.returns
  have hts := atoms_spec (ws := wsX2_wants) B.pre
  have hown : s.vm.findClass RX2 = some m.cls := findClass_of_methodNamed B.named
  have hlocks := B.notSynchronized
  have iRX2 : ∀ w ∈ u_ws RX2 TX2 13, w ∈ wsX2_wants := by decide +kernel
  have iRX1 : ∀ w ∈ u_ws RX1 TX1 6, w ∈ wsX2_wants := by decide +kernel
  subst hsz
  have hw := wk_of hP hK hD0 hE0
  generalize wA ad n s.heap.size = AA at hw ⊢
  have hl := lv_entry ([.ref (ad 0), .int cv, .int kd]) (n := 4) (Nat.le_of_ble_eq_true rfl)
  rw [lg_entry_eq]
  generalize (lg_sl ([.ref (ad 0), .int cv, .int kd]) ++ List.replicate (4 - (lg_sl ([.ref (ad 0), .int cv, .int kd])).length) Slot.unset).toArray = ls at hl ⊢
  have hl : lv_has ls 4 [(0, .ref (ad 0)), (1, .int cv), (2, .int kd)] := hl
  obtain ⟨nb, tb, Z, ta, tw, tp, hC⟩ := hD
  obtain ⟨hntt1, dt1, ⟨gt1, et1, hgt1⟩, hpt1, hNt1, hTt1⟩ := id hC
  obtain ⟨mft1, vht1, tft1, vft1, n0t1, n1t1, n2t1, n3t1, n4t1, hRt1⟩ := id hNt1
  have hnt := hntt1
  refine lv_iload_n hx hb dX2_wants_0 rfl (lv_at hl 1 rfl) ?_
  refine wc_i hw (va_runS (As := [.int cv]) (rest := []) ⟨hx, hb, hml, hown, hts⟩ (kX2_isCall l dC dI q ad en n _ cv) (va_cwS 1 hts gX2_wants_X2_isCall rfl rfl rfl (by decide +kernel) ⟨Nat.le_of_ble_eq_true rfl, Nat.le_of_ble_eq_true rfl⟩) (wk_preS hw) rfl rfl hl.1 rfl (lv_room (Nat.le_of_ble_eq_true rfl)) dX2_wants_1 ⟨Nat.le_refl _, Nat.le_refl _⟩) (fun r2 en4 H locs hp3 hw => ?_)
  obtain ⟨hr5, hn6⟩ := hp3
  rw [hn6] at hw
  clear hn6
  refine lv_if_eq (tgt := 19) hx hb dX2_wants_4 (by decide) (fun c4 => ?_) (fun c4 => ?_)
  · have hcv := z01_f hr5 c4
    refine lv_bipush (v := (-2)) hx hb dX2_wants_19 (by decide) ?_
    refine we_i hx hb hr hlocks hw ?_ dX2_wants_21
    have hS := sWants_no (pl := pl) (c := cv) (kd := kd) (fun h => hcv h.1)
    exact ⟨hS.1.symm, by rw [hS.2]; exact ⟨nb, tb, Z, ta, tw, tp, hC⟩, fun j hj => rfl⟩
  · have hcv := z01_t hr5 c4
    obtain ⟨c1, hc, ecv⟩ := okC_of hcv
    subst ecv
    refine lv_iload_n hx hb dX2_wants_7 rfl (lv_at hl 2 rfl) ?_
    refine lv_iconst (v := (-1)) hx hb dX2_wants_8 (by decide) ?_
    refine lv_icmp_eq (tgt := 22) hx hb dX2_wants_9 (by decide) (fun c9 => ?_) (fun c9 => ?_)
    · have hkd : kd = -1 ∨ okK kd := Or.inl c9
      obtain ⟨sfu7, kfu7, p0u7, p1u7, p2u7, p3u7⟩ := id (hpt1 c1 hc)
      refine lv_aload_n hx hb dX2_wants_22 rfl (lv_at hl 0 rfl) ?_
      refine wr_get (ci := 3) (C := RX2) (T := TX2) (N := 13) hx hb hts iRX2 hown hw 0 (by omega) dt1 rfl 0 (by decide) (hts (.fieldLink RX2 11 "LibraryDesk" "plans" "[LLibraryDesk$Plan;") (by decide +kernel)) (fun _ h9 => h9) rfl dX2_wants_23 ?_
      refine lv_iload_n hx hb dX2_wants_26 rfl (lv_at hl 1 rfl) ?_
      refine wr_aldq (q := ad (2 + 3 * c1)) hx hb hw 1 (by omega) 3 et1 rfl (vp_in_nI (by omega) (by decide)) (by rw [(nI_clamp (by omega))]; exact hgt1 c1 hc) dX2_wants_27 ?_
      refine wr_get (ci := 2) (C := RX1) (T := TX1) (N := 6) hx hb hts iRX1 hown hw (2 + 3 * c1) (by omega) p0u7 rfl 0 (by decide) (hts (.fieldLink RX2 41 "LibraryDesk$Plan" "wanted" "I") (by decide +kernel)) (fun _ h9 => h9) rfl dX2_wants_28 ?_
      refine lv_istore_n (lv' := [(3, .int ((pl c1).1)), (0, .ref (ad 0)), (1, .int (nI c1)), (2, .int kd)]) hx hb dX2_wants_31 rfl hl (by decide) rfl (fun ls hl => ?_)
      refine lv_aload_n hx hb dX2_wants_32 rfl (lv_at hl 1 rfl) ?_
      refine wr_get (ci := 3) (C := RX2) (T := TX2) (N := 13) hx hb hts iRX2 hown hw 0 (by omega) dt1 rfl 0 (by decide) (hts (.fieldLink RX2 11 "LibraryDesk" "plans" "[LLibraryDesk$Plan;") (by decide +kernel)) (fun _ h9 => h9) rfl dX2_wants_33 ?_
      refine lv_iload_n hx hb dX2_wants_36 rfl (lv_at hl 2 rfl) ?_
      refine wr_aldq (q := ad (2 + 3 * c1)) hx hb hw 1 (by omega) 3 et1 rfl (vp_in_nI (by omega) (by decide)) (by rw [(nI_clamp (by omega))]; exact hgt1 c1 hc) dX2_wants_37 ?_
      refine lv_iload_n hx hb dX2_wants_38 rfl (lv_at hl 3 rfl) ?_
      refine wr_put (ci := 2) (v := .int kd) (ty := .int) (C := RX1) (T := TX1) (N := 6) hx hb hts iRX1 tyX1 tyX1_ok nmX1 hown hw (2 + 3 * c1) (by omega) p0u7 rfl 0 (by decide) (hts (.fieldLink RX2 41 "LibraryDesk$Plan" "wanted" "I") (by decide +kernel)) (fun _ h9 => h9) rfl (by decide +kernel) rfl rfl (Nat.le_of_ble_eq_true rfl) dX2_wants_39 (fun en9 H locs hE8 hw => ?_)
      have he10 : en9 0 = .inr (3, [.ref (ad 1), .ref (ad nb), .ref (ad tb), .long ta, .int tw, .int tp, .int (cs 0), .int (cs 1), .int (cs 2), .int (cs 3), .int (cs 4), .int (cs 5), .int (cs 6)]) := w_ne hE8 (by omega) dt1
      have he11 : en9 1 = .inl (q.2.2.2, 10, .inr (.inr (.inr (.inr gt1)))) := w_ne hE8 (by omega) et1
      have he12 : en9 nb = .inr (1, [.ref (ad (nb + 1)), .ref (ad (nb + 2)), .ref (ad (nb + 3)), .ref (ad (nb + 4)), .int (nI (aCn A))]) := w_ne hE8 (by omega) n0t1
      have he13 : en9 (nb + 1) = .inl (q.1, 8, .inl mft1) := w_ne hE8 (by omega) n1t1
      have he14 : en9 (nb + 2) = .inl (q.2.1, 8, .inr (.inl vht1)) := w_ne hE8 (by omega) n2t1
      have he15 : en9 (nb + 3) = .inl (q.2.1, 8, .inr (.inl tft1)) := w_ne hE8 (by omega) n3t1
      have he16 : en9 (nb + 4) = .inl (q.2.1, 20, .inr (.inl vft1)) := w_ne hE8 (by omega) n4t1
      have he17 : en9 (2 + 3 * c1) = .inr (2, [.int kd, .int (nI (pl c1).2.1), .ref (ad (2 + 3 * c1 + 1)), .ref (ad (2 + 3 * c1 + 2)), .int ((pl c1).2.2.2.2.1), .int ((pl c1).2.2.2.2.2)]) := w_self hE8
      have he18 : en9 (2 + 3 * c1 + 1) = .inl (q.1, 6, .inl sfu7) := w_ne hE8 (by omega) p1u7
      have he19 : en9 (2 + 3 * c1 + 2) = .inl (q.1, 6, .inl kfu7) := w_ne hE8 (by omega) p2u7
      refine lv_iload_n hx hb dX2_wants_42 rfl (lv_at hl 0 rfl) ?_
      refine we_i hx hb hr hlocks hw ?_ dX2_wants_43
      have hS := sWants_ok (pl := pl) hc hkd
      refine ⟨hS.1.symm, ?_, fun j hj => w_fr hE8 (by omega)⟩
      rw [hS.2]
      exact ⟨nb, tb, Z, ta, tw, tp, DeskC_plan hC hc ⟨_, _, he17, he18, he19, p3u7⟩ (fun j hj => w_fr hE8 (by omega))⟩
    · refine lv_iload_n hx hb dX2_wants_12 rfl (lv_at hl 2 rfl) ?_
      refine wc_i hw (va_runS (As := [.int kd]) (rest := []) ⟨hx, hb, hml, hown, hts⟩ (kX2_isKind l dC dI q ad en n _ kd) (va_cwS 1 hts gX2_wants_X2_isKind rfl rfl rfl (by decide +kernel) ⟨Nat.le_of_ble_eq_true rfl, Nat.le_of_ble_eq_true rfl⟩) (wk_preS hw) rfl rfl hl.1 rfl (lv_room (Nat.le_of_ble_eq_true rfl)) dX2_wants_13 ⟨Nat.le_refl _, Nat.le_refl _⟩) (fun r20 en22 H locs hp21 hw => ?_)
      obtain ⟨hr23, hn24⟩ := hp21
      rw [hn24] at hw
      clear hn24
      refine lv_if_ne (tgt := 22) hx hb dX2_wants_16 (by decide) (fun c16 => ?_) (fun c16 => ?_)
      · have hkd : kd = -1 ∨ okK kd := Or.inr (z01_t hr23 c16)
        obtain ⟨sfu25, kfu25, p0u25, p1u25, p2u25, p3u25⟩ := id (hpt1 c1 hc)
        refine lv_aload_n hx hb dX2_wants_22 rfl (lv_at hl 0 rfl) ?_
        refine wr_get (ci := 3) (C := RX2) (T := TX2) (N := 13) hx hb hts iRX2 hown hw 0 (by omega) dt1 rfl 0 (by decide) (hts (.fieldLink RX2 11 "LibraryDesk" "plans" "[LLibraryDesk$Plan;") (by decide +kernel)) (fun _ h9 => h9) rfl dX2_wants_23 ?_
        refine lv_iload_n hx hb dX2_wants_26 rfl (lv_at hl 1 rfl) ?_
        refine wr_aldq (q := ad (2 + 3 * c1)) hx hb hw 1 (by omega) 3 et1 rfl (vp_in_nI (by omega) (by decide)) (by rw [(nI_clamp (by omega))]; exact hgt1 c1 hc) dX2_wants_27 ?_
        refine wr_get (ci := 2) (C := RX1) (T := TX1) (N := 6) hx hb hts iRX1 hown hw (2 + 3 * c1) (by omega) p0u25 rfl 0 (by decide) (hts (.fieldLink RX2 41 "LibraryDesk$Plan" "wanted" "I") (by decide +kernel)) (fun _ h9 => h9) rfl dX2_wants_28 ?_
        refine lv_istore_n (lv' := [(3, .int ((pl c1).1)), (0, .ref (ad 0)), (1, .int (nI c1)), (2, .int kd)]) hx hb dX2_wants_31 rfl hl (by decide) rfl (fun ls hl => ?_)
        refine lv_aload_n hx hb dX2_wants_32 rfl (lv_at hl 1 rfl) ?_
        refine wr_get (ci := 3) (C := RX2) (T := TX2) (N := 13) hx hb hts iRX2 hown hw 0 (by omega) dt1 rfl 0 (by decide) (hts (.fieldLink RX2 11 "LibraryDesk" "plans" "[LLibraryDesk$Plan;") (by decide +kernel)) (fun _ h9 => h9) rfl dX2_wants_33 ?_
        refine lv_iload_n hx hb dX2_wants_36 rfl (lv_at hl 2 rfl) ?_
        refine wr_aldq (q := ad (2 + 3 * c1)) hx hb hw 1 (by omega) 3 et1 rfl (vp_in_nI (by omega) (by decide)) (by rw [(nI_clamp (by omega))]; exact hgt1 c1 hc) dX2_wants_37 ?_
        refine lv_iload_n hx hb dX2_wants_38 rfl (lv_at hl 3 rfl) ?_
        refine wr_put (ci := 2) (v := .int kd) (ty := .int) (C := RX1) (T := TX1) (N := 6) hx hb hts iRX1 tyX1 tyX1_ok nmX1 hown hw (2 + 3 * c1) (by omega) p0u25 rfl 0 (by decide) (hts (.fieldLink RX2 41 "LibraryDesk$Plan" "wanted" "I") (by decide +kernel)) (fun _ h9 => h9) rfl (by decide +kernel) rfl rfl (Nat.le_of_ble_eq_true rfl) dX2_wants_39 (fun en27 H locs hE26 hw => ?_)
        have he28 : en27 0 = .inr (3, [.ref (ad 1), .ref (ad nb), .ref (ad tb), .long ta, .int tw, .int tp, .int (cs 0), .int (cs 1), .int (cs 2), .int (cs 3), .int (cs 4), .int (cs 5), .int (cs 6)]) := w_ne hE26 (by omega) dt1
        have he29 : en27 1 = .inl (q.2.2.2, 10, .inr (.inr (.inr (.inr gt1)))) := w_ne hE26 (by omega) et1
        have he30 : en27 nb = .inr (1, [.ref (ad (nb + 1)), .ref (ad (nb + 2)), .ref (ad (nb + 3)), .ref (ad (nb + 4)), .int (nI (aCn A))]) := w_ne hE26 (by omega) n0t1
        have he31 : en27 (nb + 1) = .inl (q.1, 8, .inl mft1) := w_ne hE26 (by omega) n1t1
        have he32 : en27 (nb + 2) = .inl (q.2.1, 8, .inr (.inl vht1)) := w_ne hE26 (by omega) n2t1
        have he33 : en27 (nb + 3) = .inl (q.2.1, 8, .inr (.inl tft1)) := w_ne hE26 (by omega) n3t1
        have he34 : en27 (nb + 4) = .inl (q.2.1, 20, .inr (.inl vft1)) := w_ne hE26 (by omega) n4t1
        have he35 : en27 (2 + 3 * c1) = .inr (2, [.int kd, .int (nI (pl c1).2.1), .ref (ad (2 + 3 * c1 + 1)), .ref (ad (2 + 3 * c1 + 2)), .int ((pl c1).2.2.2.2.1), .int ((pl c1).2.2.2.2.2)]) := w_self hE26
        have he36 : en27 (2 + 3 * c1 + 1) = .inl (q.1, 6, .inl sfu25) := w_ne hE26 (by omega) p1u25
        have he37 : en27 (2 + 3 * c1 + 2) = .inl (q.1, 6, .inl kfu25) := w_ne hE26 (by omega) p2u25
        refine lv_iload_n hx hb dX2_wants_42 rfl (lv_at hl 0 rfl) ?_
        refine we_i hx hb hr hlocks hw ?_ dX2_wants_43
        have hS := sWants_ok (pl := pl) hc hkd
        refine ⟨hS.1.symm, ?_, fun j hj => w_fr hE26 (by omega)⟩
        rw [hS.2]
        exact ⟨nb, tb, Z, ta, tw, tp, DeskC_plan hC hc ⟨_, _, he35, he36, he37, p3u25⟩ (fun j hj => w_fr hE26 (by omega))⟩
      · have hkd : ¬ (kd = -1 ∨ okK kd) := fun h => h.elim c9 (z01_f hr23 c16)
        refine lv_bipush (v := (-2)) hx hb dX2_wants_19 (by decide) ?_
        refine we_i hx hb hr hlocks hw ?_ dX2_wants_21
        have hS := sWants_no (pl := pl) (c := nI c1) (kd := kd) (fun h => hkd h.2)
        exact ⟨hS.1.symm, by rw [hS.2]; exact ⟨nb, tb, Z, ta, tw, tp, hC⟩, fun j hj => rfl⟩

set_option maxHeartbeats 4000000 in
set_option maxRecDepth 100000 in
theorem kX2_act (l : Launch) (dC : Nat → ClassId) (dI : Nat → Nat → Nat) (q : ClassId × ClassId × ClassId × ClassId) (ad : Nat → Nat) (en : Nat → va_E) (n sz : Nat) (hn42 : 42 ≤ n) (A : Ast) (pl : Nat → Pst) (cs : Nat → Int32) (hok : Aok A) (hpok : ∀ i, i < 10 → Pok (pl i)) (hD : DeskAt q ad en A pl cs) (cv so kd : Int32) :
    Met l yX2_act wsX2_act ({ frames := 1, cells := 0, slots := 0, locals := 22 }) (wPc (dC, dI) vwCl (wT q) ad en n sz [.ref (ad 0), .int cv, .int so, .int kd]) (va_Qi (fun (r : Int32) (en' : Nat → va_E) => r = sActR cv so kd pl ∧ DeskAt q ad en' A (sAct cv so kd pl) cs ∧ ∀ j, 42 ≤ j → en' j = en j) (wB (dC, dI) vwCl (wT q) ad n (wA ad n sz)) (wA ad n sz)) 0 0 (wA ad n sz) := by
  refine Met.ofW (cc := cX2_act) (maxL := 4) (ret := (some .int)) (by decide) rfl ?_
  intro p e s m args below meth c s₁ B hml hv
  obtain ⟨rfl, hsz, hP, hK, hD0, hE0⟩ := hv
  have hx := B.exec
  have hb := B.bytes
  have hr := B.returns
  have hts := atoms_spec (ws := wsX2_act) B.pre
  have hown : s.vm.findClass RX2 = some m.cls := findClass_of_methodNamed B.named
  have hlocks := B.notSynchronized
  have iRX2 : ∀ w ∈ u_ws RX2 TX2 13, w ∈ wsX2_act := by decide +kernel
  have iRX1 : ∀ w ∈ u_ws RX1 TX1 6, w ∈ wsX2_act := by decide +kernel
  subst hsz
  have hw := wk_of hP hK hD0 hE0
  generalize wA ad n s.heap.size = AA at hw ⊢
  have hl := lv_entry ([.ref (ad 0), .int cv, .int so, .int kd]) (n := 4) (Nat.le_of_ble_eq_true rfl)
  rw [lg_entry_eq]
  generalize (lg_sl ([.ref (ad 0), .int cv, .int so, .int kd]) ++ List.replicate (4 - (lg_sl ([.ref (ad 0), .int cv, .int so, .int kd])).length) Slot.unset).toArray = ls at hl ⊢
  have hl : lv_has ls 4 [(0, .ref (ad 0)), (1, .int cv), (2, .int so), (3, .int kd)] := hl
  obtain ⟨nb, tb, Z, ta, tw, tp, hC⟩ := hD
  obtain ⟨hntt1, dt1, ⟨gt1, et1, hgt1⟩, hpt1, hNt1, hTt1⟩ := id hC
  obtain ⟨mft1, vht1, tft1, vft1, n0t1, n1t1, n2t1, n3t1, n4t1, hRt1⟩ := id hNt1
  have hnt := hntt1
  refine lv_iload_n hx hb dX2_act_0 rfl (lv_at hl 1 rfl) ?_
  refine wc_i hw (va_runS (As := [.int cv]) (rest := []) ⟨hx, hb, hml, hown, hts⟩ (kX2_isCall l dC dI q ad en n _ cv) (va_cwS 1 hts gX2_act_X2_isCall rfl rfl rfl (by decide +kernel) ⟨Nat.le_of_ble_eq_true rfl, Nat.le_of_ble_eq_true rfl⟩) (wk_preS hw) rfl rfl hl.1 rfl (lv_room (Nat.le_of_ble_eq_true rfl)) dX2_act_1 ⟨Nat.le_refl _, Nat.le_refl _⟩) (fun r2 en4 H locs hp3 hw => ?_)
  obtain ⟨hr5, hn6⟩ := hp3
  rw [hn6] at hw
  clear hn6
  refine lv_if_eq (tgt := 21) hx hb dX2_act_4 (by decide) (fun c4 => ?_) (fun c4 => ?_)
  · have hcv := z01_f hr5 c4
    refine lv_iconst (v := (-1)) hx hb dX2_act_21 (by decide) ?_
    refine we_i hx hb hr hlocks hw ?_ dX2_act_22
    have hS := sAct_no (pl := pl) (c := cv) (so := so) (kd := kd) (fun h => hcv h.1)
    exact ⟨hS.1.symm, by rw [hS.2]; exact ⟨nb, tb, Z, ta, tw, tp, hC⟩, fun j hj => rfl⟩
  · have hcv := z01_t hr5 c4
    obtain ⟨c1, hc, ecv⟩ := okC_of hcv
    subst ecv
    refine lv_iload_n hx hb dX2_act_7 rfl (lv_at hl 2 rfl) ?_
    refine wc_i hw (va_runS (As := [.int so]) (rest := []) ⟨hx, hb, hml, hown, hts⟩ (kX2_isSort l dC dI q ad en n _ so) (va_cwS 1 hts gX2_act_X2_isSort rfl rfl rfl (by decide +kernel) ⟨Nat.le_of_ble_eq_true rfl, Nat.le_of_ble_eq_true rfl⟩) (wk_preS hw) rfl rfl hl.1 rfl (lv_room (Nat.le_of_ble_eq_true rfl)) dX2_act_8 ⟨Nat.le_refl _, Nat.le_refl _⟩) (fun r7 en9 H locs hp8 hw => ?_)
    obtain ⟨hr10, hn11⟩ := hp8
    rw [hn11] at hw
    clear hn11
    refine lv_if_eq (tgt := 21) hx hb dX2_act_11 (by decide) (fun c11 => ?_) (fun c11 => ?_)
    · have hso := z01_f hr10 c11
      refine lv_iconst (v := (-1)) hx hb dX2_act_21 (by decide) ?_
      refine we_i hx hb hr hlocks hw ?_ dX2_act_22
      have hS := sAct_no (pl := pl) (c := nI c1) (so := so) (kd := kd) (fun h => hso h.2.1)
      exact ⟨hS.1.symm, by rw [hS.2]; exact ⟨nb, tb, Z, ta, tw, tp, hC⟩, fun j hj => rfl⟩
    · have hso := z01_t hr10 c11
      refine lv_iload_n hx hb dX2_act_14 rfl (lv_at hl 3 rfl) ?_
      refine wc_i hw (va_runS (As := [.int kd]) (rest := []) ⟨hx, hb, hml, hown, hts⟩ (kX2_isKind l dC dI q ad en n _ kd) (va_cwS 1 hts gX2_act_X2_isKind rfl rfl rfl (by decide +kernel) ⟨Nat.le_of_ble_eq_true rfl, Nat.le_of_ble_eq_true rfl⟩) (wk_preS hw) rfl rfl hl.1 rfl (lv_room (Nat.le_of_ble_eq_true rfl)) dX2_act_15 ⟨Nat.le_refl _, Nat.le_refl _⟩) (fun r12 en14 H locs hp13 hw => ?_)
      obtain ⟨hr15, hn16⟩ := hp13
      rw [hn16] at hw
      clear hn16
      refine lv_if_ne (tgt := 23) hx hb dX2_act_18 (by decide) (fun c18 => ?_) (fun c18 => ?_)
      · have hkd := z01_t hr15 c18
        obtain ⟨sfu17, kfu17, p0u17, p1u17, p2u17, p3u17⟩ := id (hpt1 c1 hc)
        refine lv_aload_n hx hb dX2_act_23 rfl (lv_at hl 0 rfl) ?_
        refine wr_get (ci := 3) (C := RX2) (T := TX2) (N := 13) hx hb hts iRX2 hown hw 0 (by omega) dt1 rfl 0 (by decide) (hts (.fieldLink RX2 11 "LibraryDesk" "plans" "[LLibraryDesk$Plan;") (by decide +kernel)) (fun _ h9 => h9) rfl dX2_act_24 ?_
        refine lv_iload_n hx hb dX2_act_27 rfl (lv_at hl 1 rfl) ?_
        refine wr_aldq (q := ad (2 + 3 * c1)) hx hb hw 1 (by omega) 3 et1 rfl (vp_in_nI (by omega) (by decide)) (by rw [(nI_clamp (by omega))]; exact hgt1 c1 hc) dX2_act_28 ?_
        refine lv_iload_n hx hb dX2_act_29 rfl (lv_at hl 2 rfl) ?_
        refine lv_iload_n hx hb dX2_act_30 rfl (lv_at hl 3 rfl) ?_
        refine wc_i hw (va_runV (As := [.int so, .int kd]) (rest := []) ⟨hx, hb, hml, hown, hts⟩ (kX1_addAct l dC dI q ad en n _ (2 + 3 * c1) (by omega) (pl c1) (hpt1 c1 hc) (hpok c1 hc).1 so kd) (cwV 2 hts gX2_act_X1_addAct rfl rfl rfl (by decide +kernel) ⟨Nat.le_of_ble_eq_true rfl, Nat.le_of_ble_eq_true rfl⟩) (wk_preV hw (by omega) p0u17 rfl) rfl rfl hl.1 rfl (lv_room (Nat.le_of_ble_eq_true rfl)) dX2_act_31 ⟨Nat.le_refl _, Nat.le_refl _⟩) (fun r18 en20 H locs hp19 hw => ?_)
        obtain ⟨hr1, hP1, hfr1⟩ := hp19
        have hC1 := DeskC_plan hC hc hP1 hfr1
        obtain ⟨-, dt21, ⟨gt21, et21, hgt21⟩, hpt21, hNt21, hTt21⟩ := id hC1
        obtain ⟨mft21, vht21, tft21, vft21, n0t21, n1t21, n2t21, n3t21, n4t21, hRt21⟩ := id hNt21
        obtain ⟨sfu22, kfu22, p0u22, p1u22, p2u22, p3u22⟩ := id hP1
        refine lv_if_eq (tgt := 49) hx hb dX2_act_34 (by decide) (fun c34 => ?_) (fun c34 => ?_)
        · refine lv_iconst (v := (-1)) hx hb dX2_act_49 (by decide) ?_
          refine we_i hx hb hr hlocks hw ?_ dX2_act_50
          have hS := sAct_ok (pl := pl) hc ⟨hso, hkd⟩
          refine ⟨?_, by rw [hS.2]; exact ⟨nb, tb, Z, ta, tw, tp, hC1⟩, fun j hj => hfr1 j (by omega)⟩
          rw [hS.1]
          rw [if_neg (z01_f hr1 c34)]
        · refine lv_aload_n hx hb dX2_act_37 rfl (lv_at hl 0 rfl) ?_
          refine wr_get (ci := 3) (C := RX2) (T := TX2) (N := 13) hx hb hts iRX2 hown hw 0 (by omega) dt21 rfl 0 (by decide) (hts (.fieldLink RX2 11 "LibraryDesk" "plans" "[LLibraryDesk$Plan;") (by decide +kernel)) (fun _ h9 => h9) rfl dX2_act_38 ?_
          refine lv_iload_n hx hb dX2_act_41 rfl (lv_at hl 1 rfl) ?_
          refine wr_aldq (q := ad (2 + 3 * c1)) hx hb hw 1 (by omega) 3 et21 rfl (vp_in_nI (by omega) (by decide)) (by rw [(nI_clamp (by omega))]; exact hgt21 c1 hc) dX2_act_42 ?_
          refine wr_get (ci := 2) (C := RX1) (T := TX1) (N := 6) hx hb hts iRX1 hown hw (2 + 3 * c1) (by omega) p0u22 rfl 1 (by decide) (hts (.fieldLink RX2 51 "LibraryDesk$Plan" "actCount" "I") (by decide +kernel)) (fun _ h9 => h9) rfl dX2_act_43 ?_
          refine lv_goto (tgt := 50) hx hb dX2_act_46 (by decide) ?_
          refine we_i hx hb hr hlocks hw ?_ dX2_act_50
          have hS := sAct_ok (pl := pl) hc ⟨hso, hkd⟩
          refine ⟨?_, by rw [hS.2]; exact ⟨nb, tb, Z, ta, tw, tp, hC1⟩, fun j hj => hfr1 j (by omega)⟩
          rw [hS.1]
          rw [if_pos (z01_t hr1 c34), pAdd_cn (z01_t hr1 c34)]
      · have hkd := z01_f hr15 c18
        refine lv_iconst (v := (-1)) hx hb dX2_act_21 (by decide) ?_
        refine we_i hx hb hr hlocks hw ?_ dX2_act_22
        have hS := sAct_no (pl := pl) (c := nI c1) (so := so) (kd := kd) (fun h => hkd h.2.2)
        exact ⟨hS.1.symm, by rw [hS.2]; exact ⟨nb, tb, Z, ta, tw, tp, hC⟩, fun j hj => rfl⟩

set_option maxHeartbeats 4000000 in
set_option maxRecDepth 100000 in
theorem kX2_fails (l : Launch) (dC : Nat → ClassId) (dI : Nat → Nat → Nat) (q : ClassId × ClassId × ClassId × ClassId) (ad : Nat → Nat) (en : Nat → va_E) (n sz : Nat) (hn42 : 42 ≤ n) (A : Ast) (pl : Nat → Pst) (cs : Nat → Int32) (hok : Aok A) (hpok : ∀ i, i < 10 → Pok (pl i)) (hD : DeskAt q ad en A pl cs) (cv i x : Int32) :
    Met l yX2_fails wsX2_fails ({ frames := 1, cells := 0, slots := 0, locals := 22 }) (wPc (dC, dI) vwCl (wT q) ad en n sz [.ref (ad 0), .int cv, .int i, .int x]) (va_Qi (fun (r : Int32) (en' : Nat → va_E) => r = sFailsR cv i x ∧ DeskAt q ad en' A (sFails cv i x pl) cs ∧ ∀ j, 42 ≤ j → en' j = en j) (wB (dC, dI) vwCl (wT q) ad n (wA ad n sz)) (wA ad n sz)) 0 0 (wA ad n sz) := by
  refine Met.ofW (cc := cX2_fails) (maxL := 4) (ret := (some .int)) (by decide) rfl ?_
  intro p e s m args below meth c s₁ B hml hv
  obtain ⟨rfl, hsz, hP, hK, hD0, hE0⟩ := hv
  have hx := B.exec
  have hb := B.bytes
  have hr := B.returns
  have hts := atoms_spec (ws := wsX2_fails) B.pre
  have hown : s.vm.findClass RX2 = some m.cls := findClass_of_methodNamed B.named
  have hlocks := B.notSynchronized
  have iRX2 : ∀ w ∈ u_ws RX2 TX2 13, w ∈ wsX2_fails := by decide +kernel
  have iRX1 : ∀ w ∈ u_ws RX1 TX1 6, w ∈ wsX2_fails := by decide +kernel
  subst hsz
  have hw := wk_of hP hK hD0 hE0
  generalize wA ad n s.heap.size = AA at hw ⊢
  have hl := lv_entry ([.ref (ad 0), .int cv, .int i, .int x]) (n := 4) (Nat.le_of_ble_eq_true rfl)
  rw [lg_entry_eq]
  generalize (lg_sl ([.ref (ad 0), .int cv, .int i, .int x]) ++ List.replicate (4 - (lg_sl ([.ref (ad 0), .int cv, .int i, .int x])).length) Slot.unset).toArray = ls at hl ⊢
  have hl : lv_has ls 4 [(0, .ref (ad 0)), (1, .int cv), (2, .int i), (3, .int x)] := hl
  obtain ⟨nb, tb, Z, ta, tw, tp, hC⟩ := hD
  obtain ⟨hntt1, dt1, ⟨gt1, et1, hgt1⟩, hpt1, hNt1, hTt1⟩ := id hC
  obtain ⟨mft1, vht1, tft1, vft1, n0t1, n1t1, n2t1, n3t1, n4t1, hRt1⟩ := id hNt1
  have hnt := hntt1
  refine lv_iload_n hx hb dX2_fails_0 rfl (lv_at hl 1 rfl) ?_
  refine wc_i hw (va_runS (As := [.int cv]) (rest := []) ⟨hx, hb, hml, hown, hts⟩ (kX2_isCall l dC dI q ad en n _ cv) (va_cwS 1 hts gX2_fails_X2_isCall rfl rfl rfl (by decide +kernel) ⟨Nat.le_of_ble_eq_true rfl, Nat.le_of_ble_eq_true rfl⟩) (wk_preS hw) rfl rfl hl.1 rfl (lv_room (Nat.le_of_ble_eq_true rfl)) dX2_fails_1 ⟨Nat.le_refl _, Nat.le_refl _⟩) (fun r2 en4 H locs hp3 hw => ?_)
  obtain ⟨hr5, hn6⟩ := hp3
  rw [hn6] at hw
  clear hn6
  refine lv_if_eq (tgt := 27) hx hb dX2_fails_4 (by decide) (fun c4 => ?_) (fun c4 => ?_)
  · have hcv := z01_f hr5 c4
    refine lv_iconst (v := 0) hx hb dX2_fails_27 (by decide) ?_
    refine we_i hx hb hr hlocks hw ?_ dX2_fails_28
    have hS := sFails_no (pl := pl) (c := cv) (i := i) (x := x) (fun h => hcv h.1)
    exact ⟨hS.1.symm, by rw [hS.2]; exact ⟨nb, tb, Z, ta, tw, tp, hC⟩, fun j hj => rfl⟩
  · have hcv := z01_t hr5 c4
    obtain ⟨c1, hc, ecv⟩ := okC_of hcv
    subst ecv
    refine lv_iload_n hx hb dX2_fails_7 rfl (lv_at hl 2 rfl) ?_
    refine lv_if_lt (tgt := 27) hx hb dX2_fails_8 (by decide) (fun c8 => ?_) (fun c8 => ?_)
    · refine lv_iconst (v := 0) hx hb dX2_fails_27 (by decide) ?_
      refine we_i hx hb hr hlocks hw ?_ dX2_fails_28
      have hS := sFails_no (pl := pl) (c := nI c1) (i := i) (x := x) (fun h => absurd c8 (Int32.not_lt.mpr h.2.1.1))
      exact ⟨hS.1.symm, by rw [hS.2]; exact ⟨nb, tb, Z, ta, tw, tp, hC⟩, fun j hj => rfl⟩
    · refine lv_iload_n hx hb dX2_fails_11 rfl (lv_at hl 2 rfl) ?_
      refine lv_bipush (v := 6) hx hb dX2_fails_12 (by decide) ?_
      refine lv_icmp_ge (tgt := 27) hx hb dX2_fails_14 (by decide) (fun c14 => ?_) (fun c14 => ?_)
      · refine lv_iconst (v := 0) hx hb dX2_fails_27 (by decide) ?_
        refine we_i hx hb hr hlocks hw ?_ dX2_fails_28
        have hS := sFails_no (pl := pl) (c := nI c1) (i := i) (x := x) (fun h => absurd h.2.1.2 (Int32.not_lt.mpr c14))
        exact ⟨hS.1.symm, by rw [hS.2]; exact ⟨nb, tb, Z, ta, tw, tp, hC⟩, fun j hj => rfl⟩
      · refine lv_iload_n hx hb dX2_fails_17 rfl (lv_at hl 3 rfl) ?_
        refine lv_iconst (v := 1) hx hb dX2_fails_18 (by decide) ?_
        refine lv_icmp_lt (tgt := 27) hx hb dX2_fails_19 (by decide) (fun c19 => ?_) (fun c19 => ?_)
        · refine lv_iconst (v := 0) hx hb dX2_fails_27 (by decide) ?_
          refine we_i hx hb hr hlocks hw ?_ dX2_fails_28
          have hS := sFails_no (pl := pl) (c := nI c1) (i := i) (x := x) (fun h => absurd c19 (Int32.not_lt.mpr h.2.2.1))
          exact ⟨hS.1.symm, by rw [hS.2]; exact ⟨nb, tb, Z, ta, tw, tp, hC⟩, fun j hj => rfl⟩
        · refine lv_iload_n hx hb dX2_fails_22 rfl (lv_at hl 3 rfl) ?_
          refine lv_iconst (v := 5) hx hb dX2_fails_23 (by decide) ?_
          refine lv_icmp_le (tgt := 29) hx hb dX2_fails_24 (by decide) (fun c24 => ?_) (fun c24 => ?_)
          · obtain ⟨sfu7, kfu7, p0u7, p1u7, p2u7, p3u7⟩ := id (hpt1 c1 hc)
            refine lv_aload_n hx hb dX2_fails_29 rfl (lv_at hl 0 rfl) ?_
            refine wr_get (ci := 3) (C := RX2) (T := TX2) (N := 13) hx hb hts iRX2 hown hw 0 (by omega) dt1 rfl 0 (by decide) (hts (.fieldLink RX2 11 "LibraryDesk" "plans" "[LLibraryDesk$Plan;") (by decide +kernel)) (fun _ h9 => h9) rfl dX2_fails_30 ?_
            refine lv_iload_n hx hb dX2_fails_33 rfl (lv_at hl 1 rfl) ?_
            refine wr_aldq (q := ad (2 + 3 * c1)) hx hb hw 1 (by omega) 3 et1 rfl (vp_in_nI (by omega) (by decide)) (by rw [(nI_clamp (by omega))]; exact hgt1 c1 hc) dX2_fails_34 ?_
            refine lv_iload_n hx hb dX2_fails_35 rfl (lv_at hl 2 rfl) ?_
            refine lv_iload_n hx hb dX2_fails_36 rfl (lv_at hl 3 rfl) ?_
            refine wc_v hw (va_runV (As := [.int i, .int x]) (rest := []) ⟨hx, hb, hml, hown, hts⟩ (kX1_tellToFail l dC dI q ad en n _ (2 + 3 * c1) (by omega) (pl c1) (hpt1 c1 hc) i x) (cwV 2 hts gX2_fails_X1_tellToFail rfl rfl rfl (by decide +kernel) ⟨Nat.le_of_ble_eq_true rfl, Nat.le_of_ble_eq_true rfl⟩) (wk_preV hw (by omega) p0u7 rfl) rfl rfl hl.1 rfl (lv_room (Nat.le_of_ble_eq_true rfl)) dX2_fails_37 ⟨Nat.le_refl _, Nat.le_refl _⟩) (fun en10 H locs hp9 hw => ?_)
            obtain ⟨hP1, hfr1⟩ := hp9
            have hC1 := DeskC_plan hC hc hP1 hfr1
            obtain ⟨-, dt11, ⟨gt11, et11, hgt11⟩, hpt11, hNt11, hTt11⟩ := id hC1
            obtain ⟨mft11, vht11, tft11, vft11, n0t11, n1t11, n2t11, n3t11, n4t11, hRt11⟩ := id hNt11
            obtain ⟨sfu12, kfu12, p0u12, p1u12, p2u12, p3u12⟩ := id hP1
            refine lv_iconst (v := 1) hx hb dX2_fails_40 (by decide) ?_
            refine we_i hx hb hr hlocks hw ?_ dX2_fails_41
            have hS := sFails_ok (pl := pl) hc ⟨⟨Int32.not_lt.mp c8, Int32.not_le.mp c14⟩, Int32.not_lt.mp c19, c24⟩
            exact ⟨hS.1.symm, by rw [hS.2]; exact ⟨nb, tb, Z, ta, tw, tp, hC1⟩, fun j hj => hfr1 j (by omega)⟩
          · refine lv_iconst (v := 0) hx hb dX2_fails_27 (by decide) ?_
            refine we_i hx hb hr hlocks hw ?_ dX2_fails_28
            have hS := sFails_no (pl := pl) (c := nI c1) (i := i) (x := x) (fun h => c24 h.2.2.2)
            exact ⟨hS.1.symm, by rw [hS.2]; exact ⟨nb, tb, Z, ta, tw, tp, hC⟩, fun j hj => rfl⟩

set_option maxHeartbeats 4000000 in
set_option maxRecDepth 100000 in
theorem kX2_make (l : Launch) (dC : Nat → ClassId) (dI : Nat → Nat → Nat) (q : ClassId × ClassId × ClassId × ClassId) (ad : Nat → Nat) (en : Nat → va_E) (n sz : Nat) (hn42 : 42 ≤ n) (A : Ast) (pl : Nat → Pst) (cs : Nat → Int32) (hok : Aok A) (hpok : ∀ i, i < 10 → Pok (pl i)) (hD : DeskAt q ad en A pl cs) (kd : Int32) :
    Met l yX2_make wsX2_make ({ frames := 1, cells := 0, slots := 0, locals := 21 }) (wPc (dC, dI) vwCl (wT q) ad en n sz [.ref (ad 0), .int kd]) (va_Qi (fun (r : Int32) (en' : Nat → va_E) => r = sMakeR kd A ∧ DeskAt q ad en' (sMake kd A) pl cs ∧ ∀ j, 42 ≤ j → en' j = en j) (wB (dC, dI) vwCl (wT q) ad n (wA ad n sz)) (wA ad n sz)) 0 0 (wA ad n sz) := by
  refine Met.ofW (cc := cX2_make) (maxL := 2) (ret := (some .int)) (by decide) rfl ?_
  intro p e s m args below meth c s₁ B hml hv
  obtain ⟨rfl, hsz, hP, hK, hD0, hE0⟩ := hv
  have hx := B.exec
  have hb := B.bytes
  have hr := B.returns
  have hts := atoms_spec (ws := wsX2_make) B.pre
  have hown : s.vm.findClass RX2 = some m.cls := findClass_of_methodNamed B.named
  have hlocks := B.notSynchronized
  have iRX2 : ∀ w ∈ u_ws RX2 TX2 13, w ∈ wsX2_make := by decide +kernel
  have iRX0 : ∀ w ∈ u_ws RX0 TX0 5, w ∈ wsX2_make := by decide +kernel
  subst hsz
  have hw := wk_of hP hK hD0 hE0
  generalize wA ad n s.heap.size = AA at hw ⊢
  have hl := lv_entry ([.ref (ad 0), .int kd]) (n := 2) (Nat.le_of_ble_eq_true rfl)
  rw [lg_entry_eq]
  generalize (lg_sl ([.ref (ad 0), .int kd]) ++ List.replicate (2 - (lg_sl ([.ref (ad 0), .int kd])).length) Slot.unset).toArray = ls at hl ⊢
  have hl : lv_has ls 2 [(0, .ref (ad 0)), (1, .int kd)] := hl
  obtain ⟨nb, tb, Z, ta, tw, tp, hC⟩ := hD
  obtain ⟨hntt1, dt1, ⟨gt1, et1, hgt1⟩, hpt1, hNt1, hTt1⟩ := id hC
  obtain ⟨mft1, vht1, tft1, vft1, n0t1, n1t1, n2t1, n3t1, n4t1, hRt1⟩ := id hNt1
  have hnt := hntt1
  refine lv_iload_n hx hb dX2_make_0 rfl (lv_at hl 1 rfl) ?_
  refine wc_i hw (va_runS (As := [.int kd]) (rest := []) ⟨hx, hb, hml, hown, hts⟩ (kX2_isKind l dC dI q ad en n _ kd) (va_cwS 1 hts gX2_make_X2_isKind rfl rfl rfl (by decide +kernel) ⟨Nat.le_of_ble_eq_true rfl, Nat.le_of_ble_eq_true rfl⟩) (wk_preS hw) rfl rfl hl.1 rfl (lv_room (Nat.le_of_ble_eq_true rfl)) dX2_make_1 ⟨Nat.le_refl _, Nat.le_refl _⟩) (fun r2 en4 H locs hp3 hw => ?_)
  obtain ⟨hr5, hn6⟩ := hp3
  rw [hn6] at hw
  clear hn6
  refine lv_if_eq (tgt := 18) hx hb dX2_make_4 (by decide) (fun c4 => ?_) (fun c4 => ?_)
  · have hkd := z01_f hr5 c4
    refine lv_iconst (v := (-1)) hx hb dX2_make_18 (by decide) ?_
    refine we_i hx hb hr hlocks hw ?_ dX2_make_19
    have hS := sMake_no (A := A) hkd
    exact ⟨hS.1.symm, by rw [hS.2]; exact ⟨nb, tb, Z, ta, tw, tp, hC⟩, fun j hj => rfl⟩
  · have hkd := z01_t hr5 c4
    obtain ⟨k, hk, ekd⟩ := okK_of hkd
    subst ekd
    refine lv_aload_n hx hb dX2_make_7 rfl (lv_at hl 0 rfl) ?_
    refine wr_get (ci := 3) (C := RX2) (T := TX2) (N := 13) hx hb hts iRX2 hown hw 0 (by omega) dt1 rfl 1 (by decide) (hts (.fieldLink RX2 19 "LibraryDesk" "now" "LLibraryDesk$Holdings;") (by decide +kernel)) (fun _ h9 => h9) rfl dX2_make_8 ?_
    refine lv_iload_n hx hb dX2_make_11 rfl (lv_at hl 1 rfl) ?_
    refine wc_i hw (va_runV (As := [.int (nI k)]) (rest := []) ⟨hx, hb, hml, hown, hts⟩ (kX0_makeNumber l dC dI q ad en n _ nb (by omega) A hok hNt1 k hk) (cwV 1 hts gX2_make_X0_makeNumber rfl rfl rfl (by decide +kernel) ⟨Nat.le_of_ble_eq_true rfl, Nat.le_of_ble_eq_true rfl⟩) (wk_preV hw (by omega) n0t1 rfl) rfl rfl hl.1 rfl (lv_room (Nat.le_of_ble_eq_true rfl)) dX2_make_12 ⟨Nat.le_refl _, Nat.le_refl _⟩) (fun r7 en9 H locs hp8 hw => ?_)
    obtain ⟨hr1, hH1, hfr1⟩ := hp8
    have hC1 := DeskC_now hC hH1 hfr1
    obtain ⟨-, dt10, ⟨gt10, et10, hgt10⟩, hpt10, hNt10, hTt10⟩ := id hC1
    obtain ⟨mft10, vht10, tft10, vft10, n0t10, n1t10, n2t10, n3t10, n4t10, hRt10⟩ := id hNt10
    refine lv_if_ne (tgt := 20) hx hb dX2_make_15 (by decide) (fun c15 => ?_) (fun c15 => ?_)
    · refine lv_aload_n hx hb dX2_make_20 rfl (lv_at hl 0 rfl) ?_
      refine wr_get (ci := 3) (C := RX2) (T := TX2) (N := 13) hx hb hts iRX2 hown hw 0 (by omega) dt10 rfl 1 (by decide) (hts (.fieldLink RX2 19 "LibraryDesk" "now" "LLibraryDesk$Holdings;") (by decide +kernel)) (fun _ h9 => h9) rfl dX2_make_21 ?_
      refine wr_get (ci := 1) (C := RX0) (T := TX0) (N := 5) hx hb hts iRX0 hown hw nb (by omega) n0t10 rfl 0 (by decide) (hts (.fieldLink RX2 61 "LibraryDesk$Holdings" "made" "[I") (by decide +kernel)) (fun _ h9 => h9) rfl dX2_make_24 ?_
      refine lv_iload_n hx hb dX2_make_27 rfl (lv_at hl 1 rfl) ?_
      refine wr_iald (v := nI (aMd (aMake k A) k)) hx hb hw (nb + 1) (by omega) 0 n1t10 rfl (vp_in_nI (by omega) (by decide)) (by rw [(nI_clamp (by omega))]; exact (hRt10.1 k hk).1) dX2_make_28 ?_
      refine we_i hx hb hr hlocks hw ?_ dX2_make_29
      have hS := sMake_ok (A := A) hk
      exact ⟨by rw [hS.1, if_pos (z01_t hr1 c15), aMd_make (z01_t hr1 c15)], by rw [hS.2]; exact ⟨nb, tb, Z, ta, tw, tp, hC1⟩, fun j hj => hfr1 j (by omega)⟩
    · refine lv_iconst (v := (-1)) hx hb dX2_make_18 (by decide) ?_
      refine we_i hx hb hr hlocks hw ?_ dX2_make_19
      have hS := sMake_ok (A := A) hk
      exact ⟨by rw [hS.1, if_neg (z01_f hr1 c15)], by rw [hS.2]; exact ⟨nb, tb, Z, ta, tw, tp, hC1⟩, fun j hj => hfr1 j (by omega)⟩

set_option maxHeartbeats 4000000 in
set_option maxRecDepth 100000 in
theorem kX2_drop (l : Launch) (dC : Nat → ClassId) (dI : Nat → Nat → Nat) (q : ClassId × ClassId × ClassId × ClassId) (ad : Nat → Nat) (en : Nat → va_E) (n sz : Nat) (hn42 : 42 ≤ n) (A : Ast) (pl : Nat → Pst) (cs : Nat → Int32) (hok : Aok A) (hpok : ∀ i, i < 10 → Pok (pl i)) (hD : DeskAt q ad en A pl cs) (kd z : Int32) :
    Met l yX2_drop wsX2_drop ({ frames := 3, cells := 0, slots := 0, locals := 64 }) (wPc (dC, dI) vwCl (wT q) ad en n sz [.ref (ad 0), .int kd, .int z]) (va_Qi (fun (r : Int32) (en' : Nat → va_E) => r = (if aIs kd z A = true then 1 else 0) ∧ DeskAt q ad en' (aDropI kd z A) pl cs ∧ ∀ j, 42 ≤ j → en' j = en j) (wB (dC, dI) vwCl (wT q) ad n (wA ad n sz)) (wA ad n sz)) 0 0 (wA ad n sz) := by
  refine Met.ofW (cc := cX2_drop) (maxL := 3) (ret := (some .boolean)) (by decide) rfl ?_
  intro p e s m args below meth c s₁ B hml hv
  obtain ⟨rfl, hsz, hP, hK, hD0, hE0⟩ := hv
  have hx := B.exec
  have hb := B.bytes
  have hr := B.returns
  have hts := atoms_spec (ws := wsX2_drop) B.pre
  have hown : s.vm.findClass RX2 = some m.cls := findClass_of_methodNamed B.named
  have hlocks := B.notSynchronized
  have iRX2 : ∀ w ∈ u_ws RX2 TX2 13, w ∈ wsX2_drop := by decide +kernel
  subst hsz
  have hw := wk_of hP hK hD0 hE0
  generalize wA ad n s.heap.size = AA at hw ⊢
  have hl := lv_entry ([.ref (ad 0), .int kd, .int z]) (n := 3) (Nat.le_of_ble_eq_true rfl)
  rw [lg_entry_eq]
  generalize (lg_sl ([.ref (ad 0), .int kd, .int z]) ++ List.replicate (3 - (lg_sl ([.ref (ad 0), .int kd, .int z])).length) Slot.unset).toArray = ls at hl ⊢
  have hl : lv_has ls 3 [(0, .ref (ad 0)), (1, .int kd), (2, .int z)] := hl
  obtain ⟨nb, tb, Z, ta, tw, tp, hC⟩ := hD
  obtain ⟨hntt1, dt1, ⟨gt1, et1, hgt1⟩, hpt1, hNt1, hTt1⟩ := id hC
  obtain ⟨mft1, vht1, tft1, vft1, n0t1, n1t1, n2t1, n3t1, n4t1, hRt1⟩ := id hNt1
  have hnt := hntt1
  refine lv_aload_n hx hb dX2_drop_0 rfl (lv_at hl 0 rfl) ?_
  refine wr_get (ci := 3) (C := RX2) (T := TX2) (N := 13) hx hb hts iRX2 hown hw 0 (by omega) dt1 rfl 1 (by decide) (hts (.fieldLink RX2 19 "LibraryDesk" "now" "LLibraryDesk$Holdings;") (by decide +kernel)) (fun _ h9 => h9) rfl dX2_drop_1 ?_
  refine lv_iload_n hx hb dX2_drop_4 rfl (lv_at hl 1 rfl) ?_
  refine lv_iload_n hx hb dX2_drop_5 rfl (lv_at hl 2 rfl) ?_
  refine wc_i hw (va_runV (As := [.int kd, .int z]) (rest := []) ⟨hx, hb, hml, hown, hts⟩ (kX0_dropNumber l dC dI q ad en n _ nb (by omega) A hok hNt1 kd z) (cwV 2 hts gX2_drop_X0_dropNumber rfl rfl rfl (by decide +kernel) ⟨Nat.le_of_ble_eq_true rfl, Nat.le_of_ble_eq_true rfl⟩) (wk_preV hw (by omega) n0t1 rfl) rfl rfl hl.1 rfl (lv_room (Nat.le_of_ble_eq_true rfl)) dX2_drop_6 ⟨Nat.le_refl _, Nat.le_refl _⟩) (fun r2 en4 H locs hp3 hw => ?_)
  obtain ⟨hr1, hH1, hfr1⟩ := hp3
  have hC1 := DeskC_now hC hH1 hfr1
  obtain ⟨-, dt5, ⟨gt5, et5, hgt5⟩, hpt5, hNt5, hTt5⟩ := id hC1
  obtain ⟨mft5, vht5, tft5, vft5, n0t5, n1t5, n2t5, n3t5, n4t5, hRt5⟩ := id hNt5
  refine we_z hx hb hr hlocks hw (z01_r hr1) ?_ dX2_drop_9
  exact ⟨hr1, ⟨nb, tb, Z, ta, tw, tp, hC1⟩, fun j hj => hfr1 j (by omega)⟩

set_option maxHeartbeats 4000000 in
set_option maxRecDepth 100000 in
theorem kX2_here (l : Launch) (dC : Nat → ClassId) (dI : Nat → Nat → Nat) (q : ClassId × ClassId × ClassId × ClassId) (ad : Nat → Nat) (en : Nat → va_E) (n sz : Nat) (hn42 : 42 ≤ n) (A : Ast) (pl : Nat → Pst) (cs : Nat → Int32) (hok : Aok A) (hpok : ∀ i, i < 10 → Pok (pl i)) (hD : DeskAt q ad en A pl cs) (kd z : Int32) :
    Met l yX2_here wsX2_here ({ frames := 2, cells := 0, slots := 0, locals := 42 }) (wPc (dC, dI) vwCl (wT q) ad en n sz [.ref (ad 0), .int kd, .int z]) (va_Qi (fun (r : Int32) (en' : Nat → va_E) => r = (if aIs kd z A = true then 1 else 0) ∧ en' = en) (wB (dC, dI) vwCl (wT q) ad n (wA ad n sz)) (wA ad n sz)) 0 0 (wA ad n sz) := by
  refine Met.ofW (cc := cX2_here) (maxL := 3) (ret := (some .boolean)) (by decide) rfl ?_
  intro p e s m args below meth c s₁ B hml hv
  obtain ⟨rfl, hsz, hP, hK, hD0, hE0⟩ := hv
  have hx := B.exec
  have hb := B.bytes
  have hr := B.returns
  have hts := atoms_spec (ws := wsX2_here) B.pre
  have hown : s.vm.findClass RX2 = some m.cls := findClass_of_methodNamed B.named
  have hlocks := B.notSynchronized
  have iRX2 : ∀ w ∈ u_ws RX2 TX2 13, w ∈ wsX2_here := by decide +kernel
  subst hsz
  have hw := wk_of hP hK hD0 hE0
  generalize wA ad n s.heap.size = AA at hw ⊢
  have hl := lv_entry ([.ref (ad 0), .int kd, .int z]) (n := 3) (Nat.le_of_ble_eq_true rfl)
  rw [lg_entry_eq]
  generalize (lg_sl ([.ref (ad 0), .int kd, .int z]) ++ List.replicate (3 - (lg_sl ([.ref (ad 0), .int kd, .int z])).length) Slot.unset).toArray = ls at hl ⊢
  have hl : lv_has ls 3 [(0, .ref (ad 0)), (1, .int kd), (2, .int z)] := hl
  obtain ⟨nb, tb, Z, ta, tw, tp, hC⟩ := hD
  obtain ⟨hntt1, dt1, ⟨gt1, et1, hgt1⟩, hpt1, hNt1, hTt1⟩ := id hC
  obtain ⟨mft1, vht1, tft1, vft1, n0t1, n1t1, n2t1, n3t1, n4t1, hRt1⟩ := id hNt1
  have hnt := hntt1
  refine lv_aload_n hx hb dX2_here_0 rfl (lv_at hl 0 rfl) ?_
  refine wr_get (ci := 3) (C := RX2) (T := TX2) (N := 13) hx hb hts iRX2 hown hw 0 (by omega) dt1 rfl 1 (by decide) (hts (.fieldLink RX2 19 "LibraryDesk" "now" "LLibraryDesk$Holdings;") (by decide +kernel)) (fun _ h9 => h9) rfl dX2_here_1 ?_
  refine lv_iload_n hx hb dX2_here_4 rfl (lv_at hl 1 rfl) ?_
  refine lv_iload_n hx hb dX2_here_5 rfl (lv_at hl 2 rfl) ?_
  refine wc_i hw (va_runV (As := [.int kd, .int z]) (rest := []) ⟨hx, hb, hml, hown, hts⟩ (kX0_isHere l dC dI q ad en n _ nb (by omega) A hok hNt1 kd z) (cwV 2 hts gX2_here_X0_isHere rfl rfl rfl (by decide +kernel) ⟨Nat.le_of_ble_eq_true rfl, Nat.le_of_ble_eq_true rfl⟩) (wk_preV hw (by omega) n0t1 rfl) rfl rfl hl.1 rfl (lv_room (Nat.le_of_ble_eq_true rfl)) dX2_here_6 ⟨Nat.le_refl _, Nat.le_refl _⟩) (fun r2 en4 H locs hp3 hw => ?_)
  obtain ⟨hr5, hn6⟩ := hp3
  rw [hn6] at hw
  clear hn6
  have hr1 := hr5
  refine we_z hx hb hr hlocks hw (z01_r hr1) ?_ dX2_here_9
  exact ⟨hr1, rfl⟩

set_option maxHeartbeats 4000000 in
set_option maxRecDepth 100000 in
theorem kX2_numbers (l : Launch) (dC : Nat → ClassId) (dI : Nat → Nat → Nat) (q : ClassId × ClassId × ClassId × ClassId) (ad : Nat → Nat) (en : Nat → va_E) (n sz : Nat) (hn42 : 42 ≤ n) (A : Ast) (pl : Nat → Pst) (cs : Nat → Int32) (hok : Aok A) (hpok : ∀ i, i < 10 → Pok (pl i)) (hD : DeskAt q ad en A pl cs) (kd : Int32) :
    Met l yX2_numbers wsX2_numbers ({ frames := 2, cells := 0, slots := 0, locals := 42 }) (wPc (dC, dI) vwCl (wT q) ad en n sz [.ref (ad 0), .int kd]) (va_Qi (fun (r : Int32) (en' : Nat → va_E) => r = sNumR kd A ∧ en' = en) (wB (dC, dI) vwCl (wT q) ad n (wA ad n sz)) (wA ad n sz)) 0 0 (wA ad n sz) := by
  refine Met.ofW (cc := cX2_numbers) (maxL := 2) (ret := (some .int)) (by decide) rfl ?_
  intro p e s m args below meth c s₁ B hml hv
  obtain ⟨rfl, hsz, hP, hK, hD0, hE0⟩ := hv
  have hx := B.exec
  have hb := B.bytes
  have hr := B.returns
  have hts := atoms_spec (ws := wsX2_numbers) B.pre
  have hown : s.vm.findClass RX2 = some m.cls := findClass_of_methodNamed B.named
  have hlocks := B.notSynchronized
  have iRX2 : ∀ w ∈ u_ws RX2 TX2 13, w ∈ wsX2_numbers := by decide +kernel
  subst hsz
  have hw := wk_of hP hK hD0 hE0
  generalize wA ad n s.heap.size = AA at hw ⊢
  have hl := lv_entry ([.ref (ad 0), .int kd]) (n := 2) (Nat.le_of_ble_eq_true rfl)
  rw [lg_entry_eq]
  generalize (lg_sl ([.ref (ad 0), .int kd]) ++ List.replicate (2 - (lg_sl ([.ref (ad 0), .int kd])).length) Slot.unset).toArray = ls at hl ⊢
  have hl : lv_has ls 2 [(0, .ref (ad 0)), (1, .int kd)] := hl
  obtain ⟨nb, tb, Z, ta, tw, tp, hC⟩ := hD
  obtain ⟨hntt1, dt1, ⟨gt1, et1, hgt1⟩, hpt1, hNt1, hTt1⟩ := id hC
  obtain ⟨mft1, vht1, tft1, vft1, n0t1, n1t1, n2t1, n3t1, n4t1, hRt1⟩ := id hNt1
  have hnt := hntt1
  refine lv_iload_n hx hb dX2_numbers_0 rfl (lv_at hl 1 rfl) ?_
  refine wc_i hw (va_runS (As := [.int kd]) (rest := []) ⟨hx, hb, hml, hown, hts⟩ (kX2_isKind l dC dI q ad en n _ kd) (va_cwS 1 hts gX2_numbers_X2_isKind rfl rfl rfl (by decide +kernel) ⟨Nat.le_of_ble_eq_true rfl, Nat.le_of_ble_eq_true rfl⟩) (wk_preS hw) rfl rfl hl.1 rfl (lv_room (Nat.le_of_ble_eq_true rfl)) dX2_numbers_1 ⟨Nat.le_refl _, Nat.le_refl _⟩) (fun r2 en4 H locs hp3 hw => ?_)
  obtain ⟨hr5, hn6⟩ := hp3
  rw [hn6] at hw
  clear hn6
  refine lv_if_eq (tgt := 18) hx hb dX2_numbers_4 (by decide) (fun c4 => ?_) (fun c4 => ?_)
  · have hkd := z01_f hr5 c4
    refine lv_iconst (v := (-1)) hx hb dX2_numbers_18 (by decide) ?_
    refine we_i hx hb hr hlocks hw ?_ dX2_numbers_19
    exact ⟨by unfold sNumR; rw [if_neg hkd], rfl⟩
  · have hkd := z01_t hr5 c4
    obtain ⟨k, hk, ekd⟩ := okK_of hkd
    subst ekd
    refine lv_aload_n hx hb dX2_numbers_7 rfl (lv_at hl 0 rfl) ?_
    refine wr_get (ci := 3) (C := RX2) (T := TX2) (N := 13) hx hb hts iRX2 hown hw 0 (by omega) dt1 rfl 1 (by decide) (hts (.fieldLink RX2 19 "LibraryDesk" "now" "LLibraryDesk$Holdings;") (by decide +kernel)) (fun _ h9 => h9) rfl dX2_numbers_8 ?_
    refine lv_iload_n hx hb dX2_numbers_11 rfl (lv_at hl 1 rfl) ?_
    refine wc_i hw (va_runV (As := [.int (nI k)]) (rest := []) ⟨hx, hb, hml, hown, hts⟩ (kX0_countHere l dC dI q ad en n _ nb (by omega) A hok hNt1 k hk) (cwV 1 hts gX2_numbers_X0_countHere rfl rfl rfl (by decide +kernel) ⟨Nat.le_of_ble_eq_true rfl, Nat.le_of_ble_eq_true rfl⟩) (wk_preV hw (by omega) n0t1 rfl) rfl rfl hl.1 rfl (lv_room (Nat.le_of_ble_eq_true rfl)) dX2_numbers_12 ⟨Nat.le_refl _, Nat.le_refl _⟩) (fun r7 en9 H locs hp8 hw => ?_)
    obtain ⟨hr10, hn11⟩ := hp8
    rw [hn11] at hw
    clear hn11
    have hr1 := hr10
    refine lv_goto (tgt := 19) hx hb dX2_numbers_15 (by decide) ?_
    refine we_i hx hb hr hlocks hw ?_ dX2_numbers_19
    exact ⟨by rw [sNum_ok hk, hr1], rfl⟩

set_option maxHeartbeats 4000000 in
set_option maxRecDepth 100000 in
theorem kX2_tally (l : Launch) (dC : Nat → ClassId) (dI : Nat → Nat → Nat) (q : ClassId × ClassId × ClassId × ClassId) (ad : Nat → Nat) (en : Nat → va_E) (n sz : Nat) (hn42 : 42 ≤ n) (A : Ast) (pl : Nat → Pst) (cs : Nat → Int32) (hok : Aok A) (hpok : ∀ i, i < 10 → Pok (pl i)) (hD : DeskAt q ad en A pl cs) (kd : Int32) :
    Met l yX2_tally wsX2_tally ({ frames := 1, cells := 0, slots := 0, locals := 20 }) (wPc (dC, dI) vwCl (wT q) ad en n sz [.ref (ad 0), .int kd]) (va_Ql (fun (r : Int64) (en' : Nat → va_E) => r = sTalR kd A ∧ en' = en) (wB (dC, dI) vwCl (wT q) ad n (wA ad n sz)) (wA ad n sz)) 0 0 (wA ad n sz) := by
  refine Met.ofW (cc := cX2_tally) (maxL := 2) (ret := (some .long)) (by decide) rfl ?_
  intro p e s m args below meth c s₁ B hml hv
  obtain ⟨rfl, hsz, hP, hK, hD0, hE0⟩ := hv
  have hx := B.exec
  have hb := B.bytes
  have hr := B.returns
  have hts := atoms_spec (ws := wsX2_tally) B.pre
  have hown : s.vm.findClass RX2 = some m.cls := findClass_of_methodNamed B.named
  have hlocks := B.notSynchronized
  have iRX2 : ∀ w ∈ u_ws RX2 TX2 13, w ∈ wsX2_tally := by decide +kernel
  have iRX0 : ∀ w ∈ u_ws RX0 TX0 5, w ∈ wsX2_tally := by decide +kernel
  subst hsz
  have hw := wk_of hP hK hD0 hE0
  generalize wA ad n s.heap.size = AA at hw ⊢
  have hl := lv_entry ([.ref (ad 0), .int kd]) (n := 2) (Nat.le_of_ble_eq_true rfl)
  rw [lg_entry_eq]
  generalize (lg_sl ([.ref (ad 0), .int kd]) ++ List.replicate (2 - (lg_sl ([.ref (ad 0), .int kd])).length) Slot.unset).toArray = ls at hl ⊢
  have hl : lv_has ls 2 [(0, .ref (ad 0)), (1, .int kd)] := hl
  obtain ⟨nb, tb, Z, ta, tw, tp, hC⟩ := hD
  obtain ⟨hntt1, dt1, ⟨gt1, et1, hgt1⟩, hpt1, hNt1, hTt1⟩ := id hC
  obtain ⟨mft1, vht1, tft1, vft1, n0t1, n1t1, n2t1, n3t1, n4t1, hRt1⟩ := id hNt1
  have hnt := hntt1
  refine lv_iload_n hx hb dX2_tally_0 rfl (lv_at hl 1 rfl) ?_
  refine wc_i hw (va_runS (As := [.int kd]) (rest := []) ⟨hx, hb, hml, hown, hts⟩ (kX2_isKind l dC dI q ad en n _ kd) (va_cwS 1 hts gX2_tally_X2_isKind rfl rfl rfl (by decide +kernel) ⟨Nat.le_of_ble_eq_true rfl, Nat.le_of_ble_eq_true rfl⟩) (wk_preS hw) rfl rfl hl.1 rfl (lv_room (Nat.le_of_ble_eq_true rfl)) dX2_tally_1 ⟨Nat.le_refl _, Nat.le_refl _⟩) (fun r2 en4 H locs hp3 hw => ?_)
  obtain ⟨hr5, hn6⟩ := hp3
  rw [hn6] at hw
  clear hn6
  refine lv_if_eq (tgt := 19) hx hb dX2_tally_4 (by decide) (fun c4 => ?_) (fun c4 => ?_)
  · have hkd := z01_f hr5 c4
    refine lv_lconst (v := 0) hx hb dX2_tally_19 (by decide) ?_
    refine we_l hx hb hr hlocks hw ?_ dX2_tally_20
    exact ⟨by unfold sTalR; rw [if_neg hkd], rfl⟩
  · have hkd := z01_t hr5 c4
    obtain ⟨k, hk, ekd⟩ := okK_of hkd
    subst ekd
    refine lv_aload_n hx hb dX2_tally_7 rfl (lv_at hl 0 rfl) ?_
    refine wr_get (ci := 3) (C := RX2) (T := TX2) (N := 13) hx hb hts iRX2 hown hw 0 (by omega) dt1 rfl 1 (by decide) (hts (.fieldLink RX2 19 "LibraryDesk" "now" "LLibraryDesk$Holdings;") (by decide +kernel)) (fun _ h9 => h9) rfl dX2_tally_8 ?_
    refine wr_get (ci := 1) (C := RX0) (T := TX0) (N := 5) hx hb hts iRX0 hown hw nb (by omega) n0t1 rfl 2 (by decide) (hts (.fieldLink RX2 120 "LibraryDesk$Holdings" "tallies" "[J") (by decide +kernel)) (fun _ h9 => h9) rfl dX2_tally_11 ?_
    refine lv_iload_n hx hb dX2_tally_14 rfl (lv_at hl 1 rfl) ?_
    refine wr_lald (v := aTl A k) hx hb hw (nb + 3) (by omega) 1 n3t1 rfl (vp_in_nI (by omega) (by decide)) (by rw [(nI_clamp (by omega))]; exact (hRt1.1 k hk).2.1) dX2_tally_15 ?_
    refine lv_goto (tgt := 20) hx hb dX2_tally_16 (by decide) ?_
    refine we_l hx hb hr hlocks hw ?_ dX2_tally_20
    exact ⟨(sTal_ok hk).symm, rfl⟩
