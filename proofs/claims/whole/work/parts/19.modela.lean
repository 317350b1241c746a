set_option maxHeartbeats 4000000 in
set_option maxRecDepth 100000 in
theorem kX3_isHere (l : Launch) (dC : Nat → ClassId) (dI : Nat → Nat → Nat) (q : ClassId × ClassId × ClassId × ClassId) (ad : Nat → Nat) (en : Nat → va_E) (n sz : Nat) (hn58 : 58 ≤ n) (th : Int32) (A O : Ast) (pl : Nat → Pst) (cs : Nat → Int32) (an : Int64) (wy pla : Int32) (hok : Aok A) (hM : ModC q ad en th A O pl cs an wy pla) (kd z : Int32) :
    Met l yX3_isHere wsX3_isHere ({ frames := 1, cells := 0, slots := 0, locals := 20 }) (wPc (dC, dI) vwCl (wT q) ad en n sz [.ref (ad 42), .int kd, .int z]) (va_Qi (fun (r : Int32) (en' : Nat → va_E) => r = (if aIs kd z A = true then 1 else 0) ∧ en' = en) (wB (dC, dI) vwCl (wT q) ad n (wA ad n sz)) (wA ad n sz)) 0 0 (wA ad n sz) := by
  refine Met.ofW (cc := cX3_isHere) (maxL := 3) (ret := (some .boolean)) (by decide) rfl ?_
  intro p e s m args below meth c s₁ B hml hv
  obtain ⟨rfl, hsz, hP, hK, hD0, hE0⟩ := hv
  have hx := B.exec
  have hb := B.bytes
  have hr := B.returns
  have hts := atoms_spec (ws := wsX3_isHere) B.pre
  have hown : s.vm.findClass RX3 = some m.cls := findClass_of_methodNamed B.named
  have hlocks := B.notSynchronized
  have iRX3 : ∀ w ∈ u_ws RX3 TX3 21, w ∈ wsX3_isHere := by decide +kernel
  subst hsz
  have hw := wk_of hP hK hD0 hE0
  generalize wA ad n s.heap.size = AA at hw ⊢
  have hl := lv_entry ([.ref (ad 42), .int kd, .int z]) (n := 3) (Nat.le_of_ble_eq_true rfl)
  rw [lg_entry_eq]
  generalize (lg_sl ([.ref (ad 42), .int kd, .int z]) ++ List.replicate (3 - (lg_sl ([.ref (ad 42), .int kd, .int z])).length) Slot.unset).toArray = ls at hl ⊢
  have hl : lv_has ls 3 [(0, .ref (ad 42)), (1, .int kd), (2, .int z)] := hl
  obtain ⟨ot1, ⟨hFt1, mFt1, tFt1, rFt1, a1t1, a2t1, a3t1, a4t1, hRt1⟩, ⟨oht1, omt1, ott1, orrt1, b1t1, b2t1, b3t1, b4t1, hOt1⟩, ⟨wFt1, sFt1, kFt1, aFt1, fFt1, xFt1, c1t1, c2t1, c3t1, c4t1, c5t1, c6t1, hPlt1⟩, ⟨gFt1, e1t1, hTt1⟩⟩ := id hM
  have hcn := hok.2
  refine lv_iload_n hx hb dX3_isHere_0 rfl (lv_at hl 1 rfl) ?_
  refine wc_i hw (va_runS (As := [.int kd]) (rest := []) ⟨hx, hb, hml, hown, hts⟩ (kX3_isKind l dC dI q ad en n _ kd) (va_cwS 1 hts gX3_isHere_X3_isKind rfl rfl rfl (by decide +kernel) ⟨Nat.le_of_ble_eq_true rfl, Nat.le_of_ble_eq_true rfl⟩) (wk_preS hw) rfl rfl hl.1 rfl (lv_room (Nat.le_of_ble_eq_true rfl)) dX3_isHere_1 ⟨Nat.le_refl _, Nat.le_refl _⟩) (fun r2 en4 H locs hp3 hw => ?_)
  obtain ⟨hr5, hn6⟩ := hp3
  rw [hn6] at hw
  clear hn6
  refine lv_if_eq (tgt := 35) hx hb dX3_isHere_4 (by decide) (fun c4 => ?_) (fun c4 => ?_)
  · have hk0 := z01_f hr5 c4
    refine lv_iconst (v := 0) hx hb dX3_isHere_35 (by decide) ?_
    refine we_z hx hb hr hlocks hw (Or.inl rfl) ?_ dX3_isHere_36
    exact ⟨by rw [if_neg (by rw [aIs_k hk0]; decide)], rfl⟩
  · have hkd := z01_t hr5 c4
    obtain ⟨k, hk, ekd⟩ := okK_of hkd
    subst ekd
    refine lv_iload_n hx hb dX3_isHere_7 rfl (lv_at hl 2 rfl) ?_
    refine lv_if_le (tgt := 35) hx hb dX3_isHere_8 (by decide) (fun c8 => ?_) (fun c8 => ?_)
    · refine lv_iconst (v := 0) hx hb dX3_isHere_35 (by decide) ?_
      refine we_z hx hb hr hlocks hw (Or.inl rfl) ?_ dX3_isHere_36
      exact ⟨by rw [if_neg (by rw [aIs_z (fun h => absurd (Int32.lt_of_lt_of_le (show (0 : Int32) < 1 by decide) h.1) (Int32.not_lt.mpr c8))]; decide)], rfl⟩
    · refine lv_iload_n hx hb dX3_isHere_11 rfl (lv_at hl 2 rfl) ?_
      refine lv_bipush (v := 41) hx hb dX3_isHere_12 (by decide) ?_
      refine lv_icmp_ge (tgt := 35) hx hb dX3_isHere_14 (by decide) (fun c14 => ?_) (fun c14 => ?_)
      · refine lv_iconst (v := 0) hx hb dX3_isHere_35 (by decide) ?_
        refine we_z hx hb hr hlocks hw (Or.inl rfl) ?_ dX3_isHere_36
        exact ⟨by rw [if_neg (by rw [aIs_z (fun h => absurd (Int32.lt_of_le_of_lt h.2 (show (40 : Int32) < 41 by decide)) (Int32.not_lt.mpr c14))]; decide)], rfl⟩
      · obtain ⟨y, hy, hyz⟩ : ∃ y, y < 41 ∧ z = nI y := (kd_cases z (by decide)).resolve_right (fun h => h ⟨Int32.le_trans (by decide) (Int32.le_of_lt (Int32.not_le.mp c8)), Int32.not_le.mp c14⟩)
        subst hyz
        have hy1 : 1 ≤ y := (nI_ltI (a := 0) (by omega) (by omega)).mp (Int32.not_le.mp c8)
        have hy40 : y ≤ 40 := by omega
        refine lv_aload_n hx hb dX3_isHere_17 rfl (lv_at hl 0 rfl) ?_
        refine wr_get (ci := 4) (C := RX3) (T := TX3) (N := 21) hx hb hts iRX3 hown hw 42 (by omega) ot1 rfl 1 (by decide) (hts (.fieldLink RX3 7 "LibraryDeskModel" "here" "[Z") (by decide +kernel)) (fun _ h9 => h9) rfl dX3_isHere_18 ?_
        refine lv_bipush (v := 41) hx hb dX3_isHere_21 (by decide) ?_
        refine lv_iload_n hx hb dX3_isHere_23 rfl (lv_at hl 1 rfl) ?_
        refine lv_imul hx hb dX3_isHere_24 ?_
        refine lv_topi (fun x7 ex7 => ?_)
        have ex7n : x7 = nI (41 * k) := ex7.trans (pk_mul 41 k)
        clear ex7
        subst ex7n
        refine lv_iload_n hx hb dX3_isHere_25 rfl (lv_at hl 2 rfl) ?_
        refine lv_iadd hx hb dX3_isHere_26 ?_
        refine lv_topi (fun x8 ex8 => ?_)
        have ex8n : x8 = nI (41 * k + y) := ex8.trans (nI_add _ _)
        clear ex8
        subst ex8n
        refine wr_zald (v := hFt1 ((41 * k + y))) hx hb hw 43 (by omega) 2 a1t1 rfl (vp_in_nI (by omega) (by decide)) (by rw [(nI_clamp (by omega))]) dX3_isHere_27 ?_
        refine lv_if_eq (tgt := 35) hx hb dX3_isHere_28 (by decide) (fun c28 => ?_) (fun c28 => ?_)
        · refine lv_iconst (v := 0) hx hb dX3_isHere_35 (by decide) ?_
          refine we_z hx hb hr hlocks hw (Or.inl rfl) ?_ dX3_isHere_36
          have e1 := z01_f (RM_at hRt1 hk hy) c28
          exact ⟨by rw [aIs_nI hk hy1 hy40, if_neg e1], rfl⟩
        · refine lv_iconst (v := 1) hx hb dX3_isHere_31 (by decide) ?_
          refine lv_goto (tgt := 36) hx hb dX3_isHere_32 (by decide) ?_
          refine we_z hx hb hr hlocks hw (Or.inr rfl) ?_ dX3_isHere_36
          have e1 := z01_t (RM_at hRt1 hk hy) c28
          exact ⟨by rw [aIs_nI hk hy1 hy40, if_pos e1], rfl⟩

set_option maxHeartbeats 4000000 in
set_option maxRecDepth 100000 in
theorem kX3_makes (l : Launch) (dC : Nat → ClassId) (dI : Nat → Nat → Nat) (q : ClassId × ClassId × ClassId × ClassId) (ad : Nat → Nat) (en : Nat → va_E) (n sz : Nat) (hn58 : 58 ≤ n) (th : Int32) (A O : Ast) (pl : Nat → Pst) (cs : Nat → Int32) (an : Int64) (wy pla : Int32) (hok : Aok A) (hM : ModC q ad en th A O pl cs an wy pla)  (k : Nat) (hk : k < 8) :
    Met l yX3_makes wsX3_makes ({ frames := 0, cells := 0, slots := 0, locals := 0 }) (wPc (dC, dI) vwCl (wT q) ad en n sz [.ref (ad 42), .int (nI k)]) (va_Qi (fun (r : Int32) (en' : Nat → va_E) => r = (if aMd A k < 40 then nI (aMd A k + 1) else -1) ∧ ModC q ad en' th (aMake k A) O pl cs an wy pla ∧ ∀ j, (j < 42 ∨ 58 ≤ j) → en' j = en j) (wB (dC, dI) vwCl (wT q) ad n (wA ad n sz)) (wA ad n sz)) 0 0 (wA ad n sz) := by
  refine Met.ofW (cc := cX3_makes) (maxL := 2) (ret := (some .int)) (by decide) rfl ?_
  intro p e s m args below meth c s₁ B hml hv
  obtain ⟨rfl, hsz, hP, hK, hD0, hE0⟩ := hv
  have hx := B.exec
  have hb := B.bytes
  have hr := B.returns
  have hts := atoms_spec (ws := wsX3_makes) B.pre
  have hown : s.vm.findClass RX3 = some m.cls := findClass_of_methodNamed B.named
  have hlocks := B.notSynchronized
  have iRX3 : ∀ w ∈ u_ws RX3 TX3 21, w ∈ wsX3_makes := by decide +kernel
  subst hsz
  have hw := wk_of hP hK hD0 hE0
  generalize wA ad n s.heap.size = AA at hw ⊢
  have hl := lv_entry ([.ref (ad 42), .int (nI k)]) (n := 2) (Nat.le_of_ble_eq_true rfl)
  rw [lg_entry_eq]
  generalize (lg_sl ([.ref (ad 42), .int (nI k)]) ++ List.replicate (2 - (lg_sl ([.ref (ad 42), .int (nI k)])).length) Slot.unset).toArray = ls at hl ⊢
  have hl : lv_has ls 2 [(0, .ref (ad 42)), (1, .int (nI k))] := hl
  obtain ⟨ot1, ⟨hFt1, mFt1, tFt1, rFt1, a1t1, a2t1, a3t1, a4t1, hRt1⟩, ⟨oht1, omt1, ott1, orrt1, b1t1, b2t1, b3t1, b4t1, hOt1⟩, ⟨wFt1, sFt1, kFt1, aFt1, fFt1, xFt1, c1t1, c2t1, c3t1, c4t1, c5t1, c6t1, hPlt1⟩, ⟨gFt1, e1t1, hTt1⟩⟩ := id hM
  have hcn := hok.2
  have hm40 := (hok.1 k hk).1
  refine lv_aload_n hx hb dX3_makes_0 rfl (lv_at hl 0 rfl) ?_
  refine wr_get (ci := 4) (C := RX3) (T := TX3) (N := 21) hx hb hts iRX3 hown hw 42 (by omega) ot1 rfl 2 (by decide) (hts (.fieldLink RX3 13 "LibraryDeskModel" "made" "[I") (by decide +kernel)) (fun _ h9 => h9) rfl dX3_makes_1 ?_
  refine lv_iload_n hx hb dX3_makes_4 rfl (lv_at hl 1 rfl) ?_
  refine wr_iald (v := nI (aMd A k)) hx hb hw 44 (by omega) 0 a2t1 rfl (vp_in_nI (by omega) (by decide)) (by rw [(nI_clamp (by omega))]; exact (hRt1.2.1 k hk).1) dX3_makes_5 ?_
  refine lv_bipush (v := 40) hx hb dX3_makes_6 (by decide) ?_
  refine lv_icmp_ne (tgt := 13) hx hb dX3_makes_8 (by decide) (fun c8 => ?_) (fun c8 => ?_)
  · have hc8 : aMd A k < 40 := by
      have : ¬ aMd A k = 40 := fun h => c8 (by rw [h]; rfl)
      omega
    refine lv_aload_n hx hb dX3_makes_13 rfl (lv_at hl 0 rfl) ?_
    refine wr_get (ci := 4) (C := RX3) (T := TX3) (N := 21) hx hb hts iRX3 hown hw 42 (by omega) ot1 rfl 2 (by decide) (hts (.fieldLink RX3 13 "LibraryDeskModel" "made" "[I") (by decide +kernel)) (fun _ h9 => h9) rfl dX3_makes_14 ?_
    refine lv_iload_n hx hb dX3_makes_17 rfl (lv_at hl 1 rfl) ?_
    refine lv_dup2_11 hx hb dX3_makes_18 rfl rfl ?_
    refine wr_iald (v := nI (aMd A k)) hx hb hw 44 (by omega) 0 a2t1 rfl (vp_in_nI (by omega) (by decide)) (by rw [(nI_clamp (by omega))]; exact (hRt1.2.1 k hk).1) dX3_makes_19 ?_
    refine lv_iconst (v := 1) hx hb dX3_makes_20 (by decide) ?_
    refine lv_iadd hx hb dX3_makes_21 ?_
    refine lv_topi (fun x2 ex2 => ?_)
    have ex2n : x2 = nI (aMd A k + 1) := ex2.trans (nI_1 _)
    clear ex2
    subst ex2n
    refine wr_iast (j := k) hx hb hw 44 (by omega) 0 a2t1 rfl (vp_in_nI (by omega) (by decide)) (nI_clamp (by omega)) dX3_makes_22 (fun en4 H locs hE3 hw => ?_)
    have he5 : en4 42 = .inr (4, [.int th, .ref (ad 43), .ref (ad 44), .ref (ad 45), .ref (ad 46), .int (nI (aCn A)), .ref (ad 47), .ref (ad 48), .ref (ad 49), .ref (ad 50), .int (nI (aCn O)), .ref (ad 51), .ref (ad 52), .ref (ad 53), .ref (ad 54), .ref (ad 55), .ref (ad 56), .ref (ad 57), .long an, .int wy, .int pla]) := w_ne hE3 (by omega) ot1
    have he6 : en4 43 = .inl (q.2.2.1, 328, .inl hFt1) := w_ne hE3 (by omega) a1t1
    have he7 : en4 44 = .inl (q.1, 8, .inl (upd mFt1 k (nI (aMd A k + 1)))) := w_self hE3
    have he8 : en4 45 = .inl (q.2.1, 8, .inr (.inl tFt1)) := w_ne hE3 (by omega) a3t1
    have he9 : en4 46 = .inl (q.2.1, 20, .inr (.inl rFt1)) := w_ne hE3 (by omega) a4t1
    have he10 : en4 47 = .inl (q.2.2.1, 328, .inl oht1) := w_ne hE3 (by omega) b1t1
    have he11 : en4 48 = .inl (q.1, 8, .inl omt1) := w_ne hE3 (by omega) b2t1
    have he12 : en4 49 = .inl (q.2.1, 8, .inr (.inl ott1)) := w_ne hE3 (by omega) b3t1
    have he13 : en4 50 = .inl (q.2.1, 20, .inr (.inl orrt1)) := w_ne hE3 (by omega) b4t1
    have he14 : en4 51 = .inl (q.1, 10, .inl wFt1) := w_ne hE3 (by omega) c1t1
    have he15 : en4 52 = .inl (q.1, 60, .inl sFt1) := w_ne hE3 (by omega) c2t1
    have he16 : en4 53 = .inl (q.1, 60, .inl kFt1) := w_ne hE3 (by omega) c3t1
    have he17 : en4 54 = .inl (q.1, 10, .inl aFt1) := w_ne hE3 (by omega) c4t1
    have he18 : en4 55 = .inl (q.1, 10, .inl fFt1) := w_ne hE3 (by omega) c5t1
    have he19 : en4 56 = .inl (q.1, 10, .inl xFt1) := w_ne hE3 (by omega) c6t1
    have he20 : en4 57 = .inl (q.1, 7, .inl gFt1) := w_ne hE3 (by omega) e1t1
    refine lv_aload_n hx hb dX3_makes_23 rfl (lv_at hl 0 rfl) ?_
    refine wr_get (ci := 4) (C := RX3) (T := TX3) (N := 21) hx hb hts iRX3 hown hw 42 (by omega) he5 rfl 1 (by decide) (hts (.fieldLink RX3 7 "LibraryDeskModel" "here" "[Z") (by decide +kernel)) (fun _ h9 => h9) rfl dX3_makes_24 ?_
    refine lv_bipush (v := 41) hx hb dX3_makes_27 (by decide) ?_
    refine lv_iload_n hx hb dX3_makes_29 rfl (lv_at hl 1 rfl) ?_
    refine lv_imul hx hb dX3_makes_30 ?_
    refine lv_topi (fun x21 ex21 => ?_)
    have ex21n : x21 = nI (41 * k) := ex21.trans (pk_mul 41 k)
    clear ex21
    subst ex21n
    refine lv_aload_n hx hb dX3_makes_31 rfl (lv_at hl 0 rfl) ?_
    refine wr_get (ci := 4) (C := RX3) (T := TX3) (N := 21) hx hb hts iRX3 hown hw 42 (by omega) he5 rfl 2 (by decide) (hts (.fieldLink RX3 13 "LibraryDeskModel" "made" "[I") (by decide +kernel)) (fun _ h9 => h9) rfl dX3_makes_32 ?_
    refine lv_iload_n hx hb dX3_makes_35 rfl (lv_at hl 1 rfl) ?_
    refine wr_iald (v := nI (aMd A k + 1)) hx hb hw 44 (by omega) 0 he7 rfl (vp_in_nI (by omega) (by decide)) (by rw [(nI_clamp (by omega))]; exact pk_us) dX3_makes_36 ?_
    refine lv_iadd hx hb dX3_makes_37 ?_
    refine lv_topi (fun x22 ex22 => ?_)
    have ex22n : x22 = nI (41 * k + (aMd A k + 1)) := ex22.trans (nI_add _ _)
    clear ex22
    subst ex22n
    refine lv_iconst (v := 1) hx hb dX3_makes_38 (by decide) ?_
    refine wr_zast (j := (41 * k + (aMd A k + 1))) (y := 1) hx hb hw 43 (by omega) 2 he6 rfl (vp_in_nI (by omega) (by decide)) (nI_clamp (by omega)) (by decide) dX3_makes_39 (fun en24 H locs hE23 hw => ?_)
    have he25 : en24 42 = .inr (4, [.int th, .ref (ad 43), .ref (ad 44), .ref (ad 45), .ref (ad 46), .int (nI (aCn A)), .ref (ad 47), .ref (ad 48), .ref (ad 49), .ref (ad 50), .int (nI (aCn O)), .ref (ad 51), .ref (ad 52), .ref (ad 53), .ref (ad 54), .ref (ad 55), .ref (ad 56), .ref (ad 57), .long an, .int wy, .int pla]) := w_ne hE23 (by omega) he5
    have he26 : en24 43 = .inl (q.2.2.1, 328, .inl (upd hFt1 ((41 * k + (aMd A k + 1))) 1)) := w_self hE23
    have he27 : en24 44 = .inl (q.1, 8, .inl (upd mFt1 k (nI (aMd A k + 1)))) := w_ne hE23 (by omega) he7
    have he28 : en24 45 = .inl (q.2.1, 8, .inr (.inl tFt1)) := w_ne hE23 (by omega) he8
    have he29 : en24 46 = .inl (q.2.1, 20, .inr (.inl rFt1)) := w_ne hE23 (by omega) he9
    have he30 : en24 47 = .inl (q.2.2.1, 328, .inl oht1) := w_ne hE23 (by omega) he10
    have he31 : en24 48 = .inl (q.1, 8, .inl omt1) := w_ne hE23 (by omega) he11
    have he32 : en24 49 = .inl (q.2.1, 8, .inr (.inl ott1)) := w_ne hE23 (by omega) he12
    have he33 : en24 50 = .inl (q.2.1, 20, .inr (.inl orrt1)) := w_ne hE23 (by omega) he13
    have he34 : en24 51 = .inl (q.1, 10, .inl wFt1) := w_ne hE23 (by omega) he14
    have he35 : en24 52 = .inl (q.1, 60, .inl sFt1) := w_ne hE23 (by omega) he15
    have he36 : en24 53 = .inl (q.1, 60, .inl kFt1) := w_ne hE23 (by omega) he16
    have he37 : en24 54 = .inl (q.1, 10, .inl aFt1) := w_ne hE23 (by omega) he17
    have he38 : en24 55 = .inl (q.1, 10, .inl fFt1) := w_ne hE23 (by omega) he18
    have he39 : en24 56 = .inl (q.1, 10, .inl xFt1) := w_ne hE23 (by omega) he19
    have he40 : en24 57 = .inl (q.1, 7, .inl gFt1) := w_ne hE23 (by omega) he20
    refine lv_aload_n hx hb dX3_makes_40 rfl (lv_at hl 0 rfl) ?_
    refine wr_get (ci := 4) (C := RX3) (T := TX3) (N := 21) hx hb hts iRX3 hown hw 42 (by omega) he25 rfl 2 (by decide) (hts (.fieldLink RX3 13 "LibraryDeskModel" "made" "[I") (by decide +kernel)) (fun _ h9 => h9) rfl dX3_makes_41 ?_
    refine lv_iload_n hx hb dX3_makes_44 rfl (lv_at hl 1 rfl) ?_
    refine wr_iald (v := nI (aMd A k + 1)) hx hb hw 44 (by omega) 0 he27 rfl (vp_in_nI (by omega) (by decide)) (by rw [(nI_clamp (by omega))]; exact pk_us) dX3_makes_45 ?_
    refine we_i hx hb hr hlocks hw ?_ dX3_makes_46
    refine ⟨by rw [if_pos hc8], ?_, fun j hj => (w_fr hE23 (by omega)).trans (w_fr hE3 (by omega))⟩
    exact ⟨(by rw [aCn_make]; exact he25), ⟨_, _, _, _, he26, he27, he28, he29, RM_make hRt1 hk hc8⟩, ⟨_, _, _, _, he30, he31, he32, he33, hOt1⟩, ⟨_, _, _, _, _, _, he34, he35, he36, he37, he38, he39, hPlt1⟩, ⟨_, he40, hTt1⟩⟩
  · have hc8 : ¬ aMd A k < 40 := fun h => absurd ((nI_eq (b := 40) (by omega) (by omega)).mp c8) (by omega)
    refine lv_iconst (v := (-1)) hx hb dX3_makes_11 (by decide) ?_
    refine we_i hx hb hr hlocks hw ?_ dX3_makes_12
    refine ⟨by rw [if_neg hc8], ?_, fun j hj => rfl⟩
    rw [aMake_no hc8]
    exact hM

set_option maxHeartbeats 4000000 in
set_option maxRecDepth 100000 in
theorem kX3_greatest (l : Launch) (dC : Nat → ClassId) (dI : Nat → Nat → Nat) (q : ClassId × ClassId × ClassId × ClassId) (ad : Nat → Nat) (en : Nat → va_E) (n sz : Nat) (hn58 : 58 ≤ n) (th : Int32) (A O : Ast) (pl : Nat → Pst) (cs : Nat → Int32) (an : Int64) (wy pla : Int32) (hok : Aok A) (hM : ModC q ad en th A O pl cs an wy pla)  (k : Nat) (hk : k < 8) :
    Met l yX3_greatest wsX3_greatest ({ frames := 0, cells := 0, slots := 0, locals := 0 }) (wPc (dC, dI) vwCl (wT q) ad en n sz [.ref (ad 42), .int (nI k)]) (va_Qi (fun (r : Int32) (en' : Nat → va_E) => r = nI (gr (aHr A k) 40) ∧ en' = en) (wB (dC, dI) vwCl (wT q) ad n (wA ad n sz)) (wA ad n sz)) 0 0 (wA ad n sz) := by
  refine Met.ofW (cc := cX3_greatest) (maxL := 3) (ret := (some .int)) (by decide) rfl ?_
  intro p e s m args below meth c s₁ B hml hv
  obtain ⟨rfl, hsz, hP, hK, hD0, hE0⟩ := hv
  have hx := B.exec
  have hb := B.bytes
  have hr := B.returns
  have hts := atoms_spec (ws := wsX3_greatest) B.pre
  have hown : s.vm.findClass RX3 = some m.cls := findClass_of_methodNamed B.named
  have hlocks := B.notSynchronized
  have iRX3 : ∀ w ∈ u_ws RX3 TX3 21, w ∈ wsX3_greatest := by decide +kernel
  subst hsz
  have hw := wk_of hP hK hD0 hE0
  generalize wA ad n s.heap.size = AA at hw ⊢
  have hl := lv_entry ([.ref (ad 42), .int (nI k)]) (n := 3) (Nat.le_of_ble_eq_true rfl)
  rw [lg_entry_eq]
  generalize (lg_sl ([.ref (ad 42), .int (nI k)]) ++ List.replicate (3 - (lg_sl ([.ref (ad 42), .int (nI k)])).length) Slot.unset).toArray = ls at hl ⊢
  have hl : lv_has ls 3 [(0, .ref (ad 42)), (1, .int (nI k))] := hl
  obtain ⟨ot1, ⟨hFt1, mFt1, tFt1, rFt1, a1t1, a2t1, a3t1, a4t1, hRt1⟩, ⟨oht1, omt1, ott1, orrt1, b1t1, b2t1, b3t1, b4t1, hOt1⟩, ⟨wFt1, sFt1, kFt1, aFt1, fFt1, xFt1, c1t1, c2t1, c3t1, c4t1, c5t1, c6t1, hPlt1⟩, ⟨gFt1, e1t1, hTt1⟩⟩ := id hM
  have hcn := hok.2
  refine lv_bipush (v := 40) hx hb dX3_greatest_0 (by decide) ?_
  refine lv_istore_n (lv' := [(2, .int 40), (0, .ref (ad 42)), (1, .int (nI k))]) hx hb dX3_greatest_2 rfl hl (by decide) rfl (fun ls hl => ?_)
  have key : ∀ y : Nat, y ≤ 40 → gr (aHr A k) 40 = gr (aHr A k) y → ∀ (H : Heap) (locs : List Loc), wk (dC, dI) vwCl (wT q) ad en n AA s H locs → ∀ ls : Array Slot, lv_has ls 3 [(2, .int (nI y)), (0, .ref (ad 42)), (1, .int (nI k))] → W p l e (headSpec wsX3_greatest ({ frames := 0, cells := 0, slots := 0, locals := 0 })).room s m ([.ref (ad 42), .int (nI k)].toArray) below meth c H locs 0 0 (MQ below (va_Qi (fun (r : Int32) (en' : Nat → va_E) => r = nI (gr (aHr A k) 40) ∧ en' = en) (wB (dC, dI) vwCl (wT q) ad n AA) AA) ([.ref (ad 42), .int (nI k)].toArray) s 0 0 AA) (F0 m 3 ls []) := by
    intro y
    induction y with
    | zero =>
      intro hy hg H locs hw ls hl
      refine lv_iload_n hx hb dX3_greatest_3 rfl (lv_at hl 0 rfl) ?_
      refine lv_if_le (tgt := 27) hx hb dX3_greatest_4 (by decide) (fun c4 => ?_) (fun c4 => ?_)
      · refine lv_iload_n hx hb dX3_greatest_27 rfl (lv_at hl 0 rfl) ?_
        refine we_i hx hb hr hlocks hw ?_ dX3_greatest_28
        exact ⟨by rw [hg]; rfl, rfl⟩
      · exact absurd (Int32.le_refl _) c4
    | succ y ih =>
      intro hy hg H locs hw ls hl
      refine lv_iload_n hx hb dX3_greatest_3 rfl (lv_at hl 0 rfl) ?_
      refine lv_if_le (tgt := 27) hx hb dX3_greatest_4 (by decide) (fun c4 => ?_) (fun c4 => ?_)
      · exact absurd c4 (nI_nle (by omega) (by omega))
      · refine lv_aload_n hx hb dX3_greatest_7 rfl (lv_at hl 1 rfl) ?_
        refine wr_get (ci := 4) (C := RX3) (T := TX3) (N := 21) hx hb hts iRX3 hown hw 42 (by omega) ot1 rfl 1 (by decide) (hts (.fieldLink RX3 7 "LibraryDeskModel" "here" "[Z") (by decide +kernel)) (fun _ h9 => h9) rfl dX3_greatest_8 ?_
        refine lv_bipush (v := 41) hx hb dX3_greatest_11 (by decide) ?_
        refine lv_iload_n hx hb dX3_greatest_13 rfl (lv_at hl 2 rfl) ?_
        refine lv_imul hx hb dX3_greatest_14 ?_
        refine lv_topi (fun x2 ex2 => ?_)
        have ex2n : x2 = nI (41 * k) := ex2.trans (pk_mul 41 k)
        clear ex2
        subst ex2n
        refine lv_iload_n hx hb dX3_greatest_15 rfl (lv_at hl 0 rfl) ?_
        refine lv_iadd hx hb dX3_greatest_16 ?_
        refine lv_topi (fun x3 ex3 => ?_)
        have ex3n : x3 = nI (41 * k + (y + 1)) := ex3.trans (nI_add _ _)
        clear ex3
        subst ex3n
        refine wr_zald (v := hFt1 ((41 * k + (y + 1)))) hx hb hw 43 (by omega) 2 a1t1 rfl (vp_in_nI (by omega) (by decide)) (by rw [(nI_clamp (by omega))]) dX3_greatest_17 ?_
        refine lv_if_ne (tgt := 27) hx hb dX3_greatest_18 (by decide) (fun c18 => ?_) (fun c18 => ?_)
        · have hf := z01_t (RM_at hRt1 hk (show y + 1 < 41 by omega)) c18
          refine lv_iload_n hx hb dX3_greatest_27 rfl (lv_at hl 0 rfl) ?_
          refine we_i hx hb hr hlocks hw ?_ dX3_greatest_28
          exact ⟨by rw [hg, gr, if_pos hf], rfl⟩
        · have hf := z01_f (RM_at hRt1 hk (show y + 1 < 41 by omega)) c18
          refine lv_iinc (v := nI y) (lv' := [(2, .int (nI y)), (0, .ref (ad 42)), (1, .int (nI k))]) hx hb dX3_greatest_21 hl (k := 0) rfl (nI_pred_add y) (by decide) rfl (fun ls hl => ?_)
          refine lv_goto (tgt := 3) hx hb dX3_greatest_24 (by decide) ?_
          exact ih (by omega) (hg.trans (by rw [gr, if_neg hf])) _ _ hw ls (lv_sub hl [0, 1, 2] rfl)
  exact key 40 (Nat.le_refl _) rfl _ _ hw ls (lv_sub hl [0, 1, 2] rfl)

set_option maxHeartbeats 4000000 in
set_option maxRecDepth 100000 in
theorem kX3_many (l : Launch) (dC : Nat → ClassId) (dI : Nat → Nat → Nat) (q : ClassId × ClassId × ClassId × ClassId) (ad : Nat → Nat) (en : Nat → va_E) (n sz : Nat) (hn58 : 58 ≤ n) (th : Int32) (A O : Ast) (pl : Nat → Pst) (cs : Nat → Int32) (an : Int64) (wy pla : Int32) (hok : Aok A) (hM : ModC q ad en th A O pl cs an wy pla)  (k : Nat) (hk : k < 8) :
    Met l yX3_many wsX3_many ({ frames := 0, cells := 0, slots := 0, locals := 0 }) (wPc (dC, dI) vwCl (wT q) ad en n sz [.ref (ad 42), .int (nI k)]) (va_Qi (fun (r : Int32) (en' : Nat → va_E) => r = nI (cn (aHr A k) 40) ∧ en' = en) (wB (dC, dI) vwCl (wT q) ad n (wA ad n sz)) (wA ad n sz)) 0 0 (wA ad n sz) := by
  refine Met.ofW (cc := cX3_many) (maxL := 4) (ret := (some .int)) (by decide) rfl ?_
  intro p e s m args below meth c s₁ B hml hv
  obtain ⟨rfl, hsz, hP, hK, hD0, hE0⟩ := hv
  have hx := B.exec
  have hb := B.bytes
  have hr := B.returns
  have hts := atoms_spec (ws := wsX3_many) B.pre
  have hown : s.vm.findClass RX3 = some m.cls := findClass_of_methodNamed B.named
  have hlocks := B.notSynchronized
  have iRX3 : ∀ w ∈ u_ws RX3 TX3 21, w ∈ wsX3_many := by decide +kernel
  subst hsz
  have hw := wk_of hP hK hD0 hE0
  generalize wA ad n s.heap.size = AA at hw ⊢
  have hl := lv_entry ([.ref (ad 42), .int (nI k)]) (n := 4) (Nat.le_of_ble_eq_true rfl)
  rw [lg_entry_eq]
  generalize (lg_sl ([.ref (ad 42), .int (nI k)]) ++ List.replicate (4 - (lg_sl ([.ref (ad 42), .int (nI k)])).length) Slot.unset).toArray = ls at hl ⊢
  have hl : lv_has ls 4 [(0, .ref (ad 42)), (1, .int (nI k))] := hl
  obtain ⟨ot1, ⟨hFt1, mFt1, tFt1, rFt1, a1t1, a2t1, a3t1, a4t1, hRt1⟩, ⟨oht1, omt1, ott1, orrt1, b1t1, b2t1, b3t1, b4t1, hOt1⟩, ⟨wFt1, sFt1, kFt1, aFt1, fFt1, xFt1, c1t1, c2t1, c3t1, c4t1, c5t1, c6t1, hPlt1⟩, ⟨gFt1, e1t1, hTt1⟩⟩ := id hM
  have hcn := hok.2
  refine lv_iconst (v := 0) hx hb dX3_many_0 (by decide) ?_
  refine lv_istore_n (lv' := [(2, .int 0), (0, .ref (ad 42)), (1, .int (nI k))]) hx hb dX3_many_1 rfl hl (by decide) rfl (fun ls hl => ?_)
  refine lv_iconst (v := 1) hx hb dX3_many_2 (by decide) ?_
  refine lv_istore_n (lv' := [(3, .int 1), (2, .int 0), (0, .ref (ad 42)), (1, .int (nI k))]) hx hb dX3_many_3 rfl hl (by decide) rfl (fun ls hl => ?_)
  have key : ∀ d y : Nat, y + d = 40 → ∀ (H : Heap) (locs : List Loc), wk (dC, dI) vwCl (wT q) ad en n AA s H locs → ∀ ls : Array Slot, lv_has ls 4 [(3, .int (nI (y + 1))), (2, .int (nI (cn (aHr A k) y))), (0, .ref (ad 42)), (1, .int (nI k))] → W p l e (headSpec wsX3_many ({ frames := 0, cells := 0, slots := 0, locals := 0 })).room s m ([.ref (ad 42), .int (nI k)].toArray) below meth c H locs 0 0 (MQ below (va_Qi (fun (r : Int32) (en' : Nat → va_E) => r = nI (cn (aHr A k) 40) ∧ en' = en) (wB (dC, dI) vwCl (wT q) ad n AA) AA) ([.ref (ad 42), .int (nI k)].toArray) s 0 0 AA) (F0 m 4 ls []) := by
    intro d
    induction d with
    | zero =>
      intro y hy H locs hw ls hl
      have hcy := cn_le (aHr A k) y
      refine lv_iload_n hx hb dX3_many_4 rfl (lv_at hl 0 rfl) ?_
      refine lv_bipush (v := 41) hx hb dX3_many_5 (by decide) ?_
      refine lv_icmp_ge (tgt := 38) hx hb dX3_many_7 (by decide) (fun c7 => ?_) (fun c7 => ?_)
      · refine lv_iload_n hx hb dX3_many_38 rfl (lv_at hl 1 rfl) ?_
        refine we_i hx hb hr hlocks hw ?_ dX3_many_39
        have ey : y = 40 := by omega
        exact ⟨by rw [ey], rfl⟩
      · exact absurd (nI_le (a := 41) (by omega) (by omega)) c7
    | succ d ih =>
      intro y hy H locs hw ls hl
      have hcy := cn_le (aHr A k) y
      refine lv_iload_n hx hb dX3_many_4 rfl (lv_at hl 0 rfl) ?_
      refine lv_bipush (v := 41) hx hb dX3_many_5 (by decide) ?_
      refine lv_icmp_ge (tgt := 38) hx hb dX3_many_7 (by decide) (fun c7 => ?_) (fun c7 => ?_)
      · exact absurd ((nI_leI (a := 41) (by omega) (by omega)).mp c7) (by omega)
      · refine lv_iload_n hx hb dX3_many_10 rfl (lv_at hl 1 rfl) ?_
        refine lv_aload_n hx hb dX3_many_11 rfl (lv_at hl 2 rfl) ?_
        refine wr_get (ci := 4) (C := RX3) (T := TX3) (N := 21) hx hb hts iRX3 hown hw 42 (by omega) ot1 rfl 1 (by decide) (hts (.fieldLink RX3 7 "LibraryDeskModel" "here" "[Z") (by decide +kernel)) (fun _ h9 => h9) rfl dX3_many_12 ?_
        refine lv_bipush (v := 41) hx hb dX3_many_15 (by decide) ?_
        refine lv_iload_n hx hb dX3_many_17 rfl (lv_at hl 3 rfl) ?_
        refine lv_imul hx hb dX3_many_18 ?_
        refine lv_topi (fun x2 ex2 => ?_)
        have ex2n : x2 = nI (41 * k) := ex2.trans (pk_mul 41 k)
        clear ex2
        subst ex2n
        refine lv_iload_n hx hb dX3_many_19 rfl (lv_at hl 0 rfl) ?_
        refine lv_iadd hx hb dX3_many_20 ?_
        refine lv_topi (fun x3 ex3 => ?_)
        have ex3n : x3 = nI (41 * k + (y + 1)) := ex3.trans (nI_add _ _)
        clear ex3
        subst ex3n
        refine wr_zald (v := hFt1 ((41 * k + (y + 1)))) hx hb hw 43 (by omega) 2 a1t1 rfl (vp_in_nI (by omega) (by decide)) (by rw [(nI_clamp (by omega))]) dX3_many_21 ?_
        refine lv_if_eq (tgt := 29) hx hb dX3_many_22 (by decide) (fun c22 => ?_) (fun c22 => ?_)
        · have hf := z01_f (RM_at hRt1 hk (show y + 1 < 41 by omega)) c22
          refine lv_iconst (v := 0) hx hb dX3_many_29 (by decide) ?_
          refine lv_iadd hx hb dX3_many_30 ?_
          refine lv_topi (fun x4 ex4 => ?_)
          have ex4n : x4 = nI (cn (aHr A k) (y + 1)) := ex4.trans (by rw [cn]; first | (rw [if_pos hf]; exact nI_1 _) | (rw [if_neg hf]; exact nI_add _ 0))
          clear ex4
          subst ex4n
          refine lv_istore_n (lv' := [(2, .int (nI (cn (aHr A k) (y + 1)))), (3, .int (nI (y + 1))), (0, .ref (ad 42)), (1, .int (nI k))]) hx hb dX3_many_31 rfl hl (by decide) rfl (fun ls hl => ?_)
          refine lv_iinc (v := nI (y + 1 + 1)) (lv' := [(3, .int (nI (y + 1 + 1))), (2, .int (nI (cn (aHr A k) (y + 1)))), (0, .ref (ad 42)), (1, .int (nI k))]) hx hb dX3_many_32 hl (k := 1) rfl (nI_1 (y + 1)) (by decide) rfl (fun ls hl => ?_)
          refine lv_goto (tgt := 4) hx hb dX3_many_35 (by decide) ?_
          exact ih (y + 1) (by omega) _ _ hw ls (lv_sub hl [0, 1, 2, 3] rfl)
        · have hf := z01_t (RM_at hRt1 hk (show y + 1 < 41 by omega)) c22
          refine lv_iconst (v := 1) hx hb dX3_many_25 (by decide) ?_
          refine lv_goto (tgt := 30) hx hb dX3_many_26 (by decide) ?_
          refine lv_iadd hx hb dX3_many_30 ?_
          refine lv_topi (fun x5 ex5 => ?_)
          have ex5n : x5 = nI (cn (aHr A k) (y + 1)) := ex5.trans (by rw [cn]; first | (rw [if_pos hf]; exact nI_1 _) | (rw [if_neg hf]; exact nI_add _ 0))
          clear ex5
          subst ex5n
          refine lv_istore_n (lv' := [(2, .int (nI (cn (aHr A k) (y + 1)))), (3, .int (nI (y + 1))), (0, .ref (ad 42)), (1, .int (nI k))]) hx hb dX3_many_31 rfl hl (by decide) rfl (fun ls hl => ?_)
          refine lv_iinc (v := nI (y + 1 + 1)) (lv' := [(3, .int (nI (y + 1 + 1))), (2, .int (nI (cn (aHr A k) (y + 1)))), (0, .ref (ad 42)), (1, .int (nI k))]) hx hb dX3_many_32 hl (k := 1) rfl (nI_1 (y + 1)) (by decide) rfl (fun ls hl => ?_)
          refine lv_goto (tgt := 4) hx hb dX3_many_35 (by decide) ?_
          exact ih (y + 1) (by omega) _ _ hw ls (lv_sub hl [0, 1, 2, 3] rfl)
  exact key 40 0 rfl _ _ hw ls (lv_sub hl [0, 1, 2, 3] rfl)

set_option maxHeartbeats 4000000 in
set_option maxRecDepth 100000 in
theorem kX3_drops (l : Launch) (dC : Nat → ClassId) (dI : Nat → Nat → Nat) (q : ClassId × ClassId × ClassId × ClassId) (ad : Nat → Nat) (en : Nat → va_E) (n sz : Nat) (hn58 : 58 ≤ n) (th : Int32) (A O : Ast) (pl : Nat → Pst) (cs : Nat → Int32) (an : Int64) (wy pla : Int32) (hok : Aok A) (hM : ModC q ad en th A O pl cs an wy pla) (kd z : Int32) :
    Met l yX3_drops wsX3_drops ({ frames := 2, cells := 0, slots := 0, locals := 42 }) (wPc (dC, dI) vwCl (wT q) ad en n sz [.ref (ad 42), .int kd, .int z]) (va_Qi (fun (r : Int32) (en' : Nat → va_E) => r = (if aIs kd z A = true then 1 else 0) ∧ ModC q ad en' th (aDropI kd z A) O pl cs an wy pla ∧ ∀ j, (j < 42 ∨ 58 ≤ j) → en' j = en j) (wB (dC, dI) vwCl (wT q) ad n (wA ad n sz)) (wA ad n sz)) 0 0 (wA ad n sz) := by
  refine Met.ofW (cc := cX3_drops) (maxL := 3) (ret := (some .boolean)) (by decide) rfl ?_
  intro p e s m args below meth c s₁ B hml hv
  obtain ⟨rfl, hsz, hP, hK, hD0, hE0⟩ := hv
  have hx := B.exec
  have hb := B.bytes
  have hr := B.returns
  have hts := atoms_spec (ws := wsX3_drops) B.pre
  have hown : s.vm.findClass RX3 = some m.cls := findClass_of_methodNamed B.named
  have hlocks := B.notSynchronized
  have iRX3 : ∀ w ∈ u_ws RX3 TX3 21, w ∈ wsX3_drops := by decide +kernel
  subst hsz
  have hw := wk_of hP hK hD0 hE0
  generalize wA ad n s.heap.size = AA at hw ⊢
  have hl := lv_entry ([.ref (ad 42), .int kd, .int z]) (n := 3) (Nat.le_of_ble_eq_true rfl)
  rw [lg_entry_eq]
  generalize (lg_sl ([.ref (ad 42), .int kd, .int z]) ++ List.replicate (3 - (lg_sl ([.ref (ad 42), .int kd, .int z])).length) Slot.unset).toArray = ls at hl ⊢
  have hl : lv_has ls 3 [(0, .ref (ad 42)), (1, .int kd), (2, .int z)] := hl
  obtain ⟨ot1, ⟨hFt1, mFt1, tFt1, rFt1, a1t1, a2t1, a3t1, a4t1, hRt1⟩, ⟨oht1, omt1, ott1, orrt1, b1t1, b2t1, b3t1, b4t1, hOt1⟩, ⟨wFt1, sFt1, kFt1, aFt1, fFt1, xFt1, c1t1, c2t1, c3t1, c4t1, c5t1, c6t1, hPlt1⟩, ⟨gFt1, e1t1, hTt1⟩⟩ := id hM
  have hcn := hok.2
  refine lv_aload_n hx hb dX3_drops_0 rfl (lv_at hl 0 rfl) ?_
  refine lv_iload_n hx hb dX3_drops_1 rfl (lv_at hl 1 rfl) ?_
  refine lv_iload_n hx hb dX3_drops_2 rfl (lv_at hl 2 rfl) ?_
  refine wc_i hw (va_runV (As := [.int kd, .int z]) (rest := []) ⟨hx, hb, hml, hown, hts⟩ (kX3_isHere l dC dI q ad en n _ hn58 th A O pl cs an wy pla hok hM kd z) (cwV 2 hts gX3_drops_X3_isHere rfl rfl rfl (by decide +kernel) ⟨Nat.le_of_ble_eq_true rfl, Nat.le_of_ble_eq_true rfl⟩) (wk_preV hw (by omega) ot1 rfl) rfl rfl hl.1 rfl (lv_room (Nat.le_of_ble_eq_true rfl)) dX3_drops_3 ⟨Nat.le_refl _, Nat.le_refl _⟩) (fun r2 en4 H locs hp3 hw => ?_)
  obtain ⟨hr5, hn6⟩ := hp3
  rw [hn6] at hw
  clear hn6
  refine lv_if_ne (tgt := 11) hx hb dX3_drops_6 (by decide) (fun c6 => ?_) (fun c6 => ?_)
  · have hi := z01_t hr5 c6
    obtain ⟨k, y, hk, hy1, hy40, hkd, hyz, hhr⟩ := aIs_in hi
    subst hkd
    subst hyz
    refine lv_aload_n hx hb dX3_drops_11 rfl (lv_at hl 0 rfl) ?_
    refine wr_get (ci := 4) (C := RX3) (T := TX3) (N := 21) hx hb hts iRX3 hown hw 42 (by omega) ot1 rfl 1 (by decide) (hts (.fieldLink RX3 7 "LibraryDeskModel" "here" "[Z") (by decide +kernel)) (fun _ h9 => h9) rfl dX3_drops_12 ?_
    refine lv_bipush (v := 41) hx hb dX3_drops_15 (by decide) ?_
    refine lv_iload_n hx hb dX3_drops_17 rfl (lv_at hl 1 rfl) ?_
    refine lv_imul hx hb dX3_drops_18 ?_
    refine lv_topi (fun x7 ex7 => ?_)
    have ex7n : x7 = nI (41 * k) := ex7.trans (pk_mul 41 k)
    clear ex7
    subst ex7n
    refine lv_iload_n hx hb dX3_drops_19 rfl (lv_at hl 2 rfl) ?_
    refine lv_iadd hx hb dX3_drops_20 ?_
    refine lv_topi (fun x8 ex8 => ?_)
    have ex8n : x8 = nI (41 * k + y) := ex8.trans (nI_add _ _)
    clear ex8
    subst ex8n
    refine lv_iconst (v := 0) hx hb dX3_drops_21 (by decide) ?_
    refine wr_zast (j := (41 * k + y)) (y := 0) hx hb hw 43 (by omega) 2 a1t1 rfl (vp_in_nI (by omega) (by decide)) (nI_clamp (by omega)) (by decide) dX3_drops_22 (fun en10 H locs hE9 hw => ?_)
    have he11 : en10 42 = .inr (4, [.int th, .ref (ad 43), .ref (ad 44), .ref (ad 45), .ref (ad 46), .int (nI (aCn A)), .ref (ad 47), .ref (ad 48), .ref (ad 49), .ref (ad 50), .int (nI (aCn O)), .ref (ad 51), .ref (ad 52), .ref (ad 53), .ref (ad 54), .ref (ad 55), .ref (ad 56), .ref (ad 57), .long an, .int wy, .int pla]) := w_ne hE9 (by omega) ot1
    have he12 : en10 43 = .inl (q.2.2.1, 328, .inl (upd hFt1 ((41 * k + y)) 0)) := w_self hE9
    have he13 : en10 44 = .inl (q.1, 8, .inl mFt1) := w_ne hE9 (by omega) a2t1
    have he14 : en10 45 = .inl (q.2.1, 8, .inr (.inl tFt1)) := w_ne hE9 (by omega) a3t1
    have he15 : en10 46 = .inl (q.2.1, 20, .inr (.inl rFt1)) := w_ne hE9 (by omega) a4t1
    have he16 : en10 47 = .inl (q.2.2.1, 328, .inl oht1) := w_ne hE9 (by omega) b1t1
    have he17 : en10 48 = .inl (q.1, 8, .inl omt1) := w_ne hE9 (by omega) b2t1
    have he18 : en10 49 = .inl (q.2.1, 8, .inr (.inl ott1)) := w_ne hE9 (by omega) b3t1
    have he19 : en10 50 = .inl (q.2.1, 20, .inr (.inl orrt1)) := w_ne hE9 (by omega) b4t1
    have he20 : en10 51 = .inl (q.1, 10, .inl wFt1) := w_ne hE9 (by omega) c1t1
    have he21 : en10 52 = .inl (q.1, 60, .inl sFt1) := w_ne hE9 (by omega) c2t1
    have he22 : en10 53 = .inl (q.1, 60, .inl kFt1) := w_ne hE9 (by omega) c3t1
    have he23 : en10 54 = .inl (q.1, 10, .inl aFt1) := w_ne hE9 (by omega) c4t1
    have he24 : en10 55 = .inl (q.1, 10, .inl fFt1) := w_ne hE9 (by omega) c5t1
    have he25 : en10 56 = .inl (q.1, 10, .inl xFt1) := w_ne hE9 (by omega) c6t1
    have he26 : en10 57 = .inl (q.1, 7, .inl gFt1) := w_ne hE9 (by omega) e1t1
    refine lv_iconst (v := 1) hx hb dX3_drops_23 (by decide) ?_
    refine we_z hx hb hr hlocks hw (Or.inr rfl) ?_ dX3_drops_24
    refine ⟨by rw [if_pos hi], ?_, fun j hj => w_fr hE9 (by omega)⟩
    rw [aDropI_nI hk hy1 hy40 hhr]
    exact ⟨he11, ⟨_, _, _, _, he12, he13, he14, he15, RM_drop hRt1 hk (by omega)⟩, ⟨_, _, _, _, he16, he17, he18, he19, hOt1⟩, ⟨_, _, _, _, _, _, he20, he21, he22, he23, he24, he25, hPlt1⟩, ⟨_, he26, hTt1⟩⟩
  · have hi := z01_f hr5 c6
    refine lv_iconst (v := 0) hx hb dX3_drops_9 (by decide) ?_
    refine we_z hx hb hr hlocks hw (Or.inl rfl) ?_ dX3_drops_10
    refine ⟨by rw [if_neg hi], ?_, fun j hj => rfl⟩
    rw [aDropI_no hi]
    exact hM
