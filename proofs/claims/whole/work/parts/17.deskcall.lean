theorem sRun_nI {c : Nat} {z : Int32} {a : Int64} {A : Ast} {pl : Nat → Pst} (hc : c < 10) : sRun (nI c) z a A pl = tR (pl c) z a A := by
  unfold sRun tR
  rw [nI_clamp (by omega)]
theorem sCall_ref {c z : Int32} {a : Int64} {A : Ast} {pl : Nat → Pst} (h : sRef c z A pl) : sCallR c z a A pl = -9223372036854775807 ∧ sCallA c z a A pl = A ∧ sCallP c z a A pl = pl ∧ ∀ cs, sCallC c z a A pl cs = upd cs 1 (cs 1 + 1) := by
  unfold sCallR sCallA sCallP sCallC
  rw [if_pos h, if_pos h, if_pos h]
  exact ⟨rfl, rfl, rfl, fun cs => by rw [if_pos h]⟩
theorem sCall_ok {c : Nat} {z : Int32} {a : Int64} {A : Ast} {pl : Nat → Pst} (hc : c < 10) (h : ¬ sRef (nI c) z A pl) (h0 : (tR (pl c) z a A).1 = 0) : sCallR (nI c) z a A pl = (tR (pl c) z a A).2.2.2 ∧ sCallA (nI c) z a A pl = (tR (pl c) z a A).2.2.1 ∧ sCallP (nI c) z a A pl = pl ∧ ∀ cs, sCallC (nI c) z a A pl cs = upd cs 0 (cs 0 + 1) := by
  unfold sCallR sCallA sCallP sCallC
  rw [if_neg h, if_neg h, if_neg h, sRun_nI hc, if_pos h0, if_pos h0, if_pos h0]
  exact ⟨rfl, rfl, rfl, fun cs => by rw [if_neg h, if_pos h0]⟩
theorem sCall_fail {c : Nat} {z : Int32} {a : Int64} {A : Ast} {pl : Nat → Pst} (hc : c < 10) (h : ¬ sRef (nI c) z A pl) (h0 : ¬ (tR (pl c) z a A).1 = 0) : sCallR (nI c) z a A pl = -9223372036854775806 ∧ sCallA (nI c) z a A pl = A ∧ sCallP (nI c) z a A pl = va_up pl c (pForgetI (nI (tR (pl c) z a A).2.1) (pl c)) ∧ ∀ cs, sCallC (nI c) z a A pl cs = nfC cs (tR (pl c) z a A).1 (nI (tR (pl c) z a A).2.1) (nI c) z := by
  unfold sCallR sCallA sCallP sCallC
  rw [if_neg h, if_neg h, if_neg h, sRun_nI hc, if_neg h0, if_neg h0, if_neg h0]
  exact ⟨rfl, rfl, by rw [nI_clamp (by omega)]; rfl, fun cs => by rw [if_neg h, if_neg h0]; rfl⟩
set_option maxHeartbeats 4000000 in
set_option maxRecDepth 100000 in
theorem kX2_call (l : Launch) (dC : Nat → ClassId) (dI : Nat → Nat → Nat) (q : ClassId × ClassId × ClassId × ClassId) (ad : Nat → Nat) (en : Nat → va_E) (n sz : Nat) (hn42 : 42 ≤ n) (A : Ast) (pl : Nat → Pst) (cs : Nat → Int32) (hok : Aok A) (hpok : ∀ i, i < 10 → Pok (pl i)) (hD : DeskAt q ad en A pl cs) (cv z : Int32) (a : Int64) :
    Met l yX2_call wsX2_call ({ frames := 5, cells := 0, slots := 0, locals := 115 }) (wPc (dC, dI) vwCl (wT q) ad en n sz [.ref (ad 0), .int cv, .int z, .long a]) (va_Ql (fun (r : Int64) (en' : Nat → va_E) => r = sCallR cv z a A pl ∧ DeskAt q ad en' (sCallA cv z a A pl) (sCallP cv z a A pl) (sCallC cv z a A pl cs) ∧ ∀ j, 42 ≤ j → en' j = en j) (wB (dC, dI) vwCl (wT q) ad n (wA ad n sz)) (wA ad n sz)) 0 0 (wA ad n sz) := by
  refine Met.ofW (cc := cX2_call) (maxL := 5) (ret := (some .long)) (by decide) rfl ?_
  intro p e s m args below meth c s₁ B hml hv
  obtain ⟨rfl, hsz, hP, hK, hD0, hE0⟩ := hv
  have hx := B.exec
  have hb := B.bytes
  have hr := B.returns
  have hts := atoms_spec (ws := wsX2_call) B.pre
  have hown : s.vm.findClass RX2 = some m.cls := findClass_of_methodNamed B.named
  have hlocks := B.notSynchronized
  have iRX2 : ∀ w ∈ u_ws RX2 TX2 13, w ∈ wsX2_call := by decide +kernel
  subst hsz
  have hw := wk_of hP hK hD0 hE0
  generalize wA ad n s.heap.size = AA at hw ⊢
  have hl := lv_entry ([.ref (ad 0), .int cv, .int z, .long a]) (n := 5) (Nat.le_of_ble_eq_true rfl)
  rw [lg_entry_eq]
  generalize (lg_sl ([.ref (ad 0), .int cv, .int z, .long a]) ++ List.replicate (5 - (lg_sl ([.ref (ad 0), .int cv, .int z, .long a])).length) Slot.unset).toArray = ls at hl ⊢
  have hl : lv_has ls 5 [(0, .ref (ad 0)), (1, .int cv), (2, .int z), (3, .long a)] := hl
  obtain ⟨nb, tb, Z, ta, tw, tp, hC⟩ := hD
  obtain ⟨hntt1, dt1, ⟨gt1, et1, hgt1⟩, hpt1, hNt1, hTt1⟩ := id hC
  obtain ⟨mft1, vht1, tft1, vft1, n0t1, n1t1, n2t1, n3t1, n4t1, hRt1⟩ := id hNt1
  have hnt := hntt1
  refine lv_aload_n hx hb dX2_call_0 rfl (lv_at hl 0 rfl) ?_
  refine lv_iload_n hx hb dX2_call_1 rfl (lv_at hl 1 rfl) ?_
  refine lv_iload_n hx hb dX2_call_2 rfl (lv_at hl 2 rfl) ?_
  refine wc_i hw (va_runV (As := [.int cv, .int z]) (rest := []) ⟨hx, hb, hml, hown, hts⟩ (kX2_isRefused l dC dI q ad en n _ hn42 A pl cs hok hpok ⟨nb, tb, Z, ta, tw, tp, hC⟩ cv z) (cwV 2 hts gX2_call_X2_isRefused rfl rfl rfl (by decide +kernel) ⟨Nat.le_of_ble_eq_true rfl, Nat.le_of_ble_eq_true rfl⟩) (wk_preV hw (by omega) dt1 rfl) rfl rfl hl.1 rfl (lv_room (Nat.le_of_ble_eq_true rfl)) dX2_call_3 ⟨Nat.le_refl _, Nat.le_refl _⟩) (fun r2 en4 H locs hp3 hw => ?_)
  obtain ⟨hr5, hn6⟩ := hp3
  rw [hn6] at hw
  clear hn6
  refine lv_if_eq (tgt := 23) hx hb dX2_call_6 (by decide) (fun c6 => ?_) (fun c6 => ?_)
  · have hnr := z01_f hr5 c6
    have hcv : okC cv := Decidable.of_not_not (fun h => hnr (Or.inl h))
    obtain ⟨c1, hc, ecv⟩ := okC_of hcv
    subst ecv
    obtain ⟨sfu7, kfu7, p0u7, p1u7, p2u7, p3u7⟩ := id (hpt1 c1 hc)
    refine lv_aload_n hx hb dX2_call_23 rfl (lv_at hl 0 rfl) ?_
    refine lv_aload_n hx hb dX2_call_24 rfl (lv_at hl 0 rfl) ?_
    refine wr_get (ci := 3) (C := RX2) (T := TX2) (N := 13) hx hb hts iRX2 hown hw 0 (by omega) dt1 rfl 0 (by decide) (hts (.fieldLink RX2 11 "LibraryDesk" "plans" "[LLibraryDesk$Plan;") (by decide +kernel)) (fun _ h9 => h9) rfl dX2_call_25 ?_
    refine lv_iload_n hx hb dX2_call_28 rfl (lv_at hl 1 rfl) ?_
    refine wr_aldq (q := ad (2 + 3 * c1)) hx hb hw 1 (by omega) 3 et1 rfl (vp_in_nI (by omega) (by decide)) (by rw [(nI_clamp (by omega))]; exact hgt1 c1 hc) dX2_call_29 ?_
    refine lv_iload_n hx hb dX2_call_30 rfl (lv_at hl 2 rfl) ?_
    refine lv_lload_n hx hb dX2_call_31 rfl (lv_at hl 3 rfl) ?_
    refine wc_v hw (va_runV (As := [.ref (ad (2 + 3 * c1)), .int z, .long a]) (rest := []) ⟨hx, hb, hml, hown, hts⟩ (kX2_tryActs l dC dI q ad en n _ hn42 nb tb A Z pl cs ta tw tp hC hok c1 hc (hpok c1 hc) z a) (cwV 3 hts gX2_call_X2_tryActs rfl rfl rfl (by decide +kernel) ⟨Nat.le_of_ble_eq_true rfl, Nat.le_of_ble_eq_true rfl⟩) (wk_preV hw (by omega) dt1 rfl) rfl rfl hl.1 rfl (lv_room (Nat.le_of_ble_eq_true rfl)) dX2_call_32 ⟨Nat.le_refl _, Nat.le_refl _⟩) (fun en10 H locs hp9 hw => ?_)
    obtain ⟨tp2, hC1, hpl2, hfr1⟩ := hp9
    obtain ⟨-, dt11, ⟨gt11, et11, hgt11⟩, hpt11, hNt11, hTt11⟩ := id hC1
    obtain ⟨mft11, vht11, tft11, vft11, n0t11, n1t11, n2t11, n3t11, n4t11, hRt11⟩ := id hNt11
    refine lv_aload_n hx hb dX2_call_35 rfl (lv_at hl 0 rfl) ?_
    refine wr_get (ci := 3) (C := RX2) (T := TX2) (N := 13) hx hb hts iRX2 hown hw 0 (by omega) dt11 rfl 4 (by decide) (hts (.fieldLink RX2 80 "LibraryDesk" "trialFailedWith" "I") (by decide +kernel)) (fun _ h9 => h9) rfl dX2_call_36 ?_
    refine lv_if_eq (tgt := 52) hx hb dX2_call_39 (by decide) (fun c39 => ?_) (fun c39 => ?_)
    · refine lv_aload_n hx hb dX2_call_52 rfl (lv_at hl 0 rfl) ?_
      refine wc_v hw (va_runV (As := []) (rest := []) ⟨hx, hb, hml, hown, hts⟩ (kX2_keepTrial l dC dI q ad en10 n _ hn42 nb tb A (tR (pl c1) z a A).2.2.1 pl cs (tR (pl c1) z a A).2.2.2 (tR (pl c1) z a A).1 tp2 hC1) (cwV 0 hts gX2_call_X2_keepTrial rfl rfl rfl (by decide +kernel) ⟨Nat.le_of_ble_eq_true rfl, Nat.le_of_ble_eq_true rfl⟩) (wk_preV hw (by omega) dt11 rfl) rfl rfl hl.1 rfl (lv_room (Nat.le_of_ble_eq_true rfl)) dX2_call_53 ⟨Nat.le_refl _, Nat.le_refl _⟩) (fun en14 H locs hp13 hw => ?_)
      obtain ⟨hC2, hfr2⟩ := hp13
      obtain ⟨-, dt15, ⟨gt15, et15, hgt15⟩, hpt15, hNt15, hTt15⟩ := id hC2
      obtain ⟨mft15, vht15, tft15, vft15, n0t15, n1t15, n2t15, n3t15, n4t15, hRt15⟩ := id hNt15
      refine lv_aload_n hx hb dX2_call_56 rfl (lv_at hl 0 rfl) ?_
      refine lv_dup hx hb dX2_call_57 rfl ?_
      refine wr_get (ci := 3) (C := RX2) (T := TX2) (N := 13) hx hb hts iRX2 hown hw 0 (by omega) dt15 rfl 6 (by decide) (hts (.fieldLink RX2 91 "LibraryDesk" "answeredCalls" "I") (by decide +kernel)) (fun _ h9 => h9) rfl dX2_call_58 ?_
      refine lv_iconst (v := 1) hx hb dX2_call_61 (by decide) ?_
      refine lv_iadd hx hb dX2_call_62 ?_
      refine lv_topi (fun x16 ex16 => ?_)
      have ex16n : x16 = cs 0 + 1 := ex16.trans (rfl)
      clear ex16
      subst ex16n
      refine wr_put (ci := 3) (v := .int (cs 0 + 1)) (ty := .int) (C := RX2) (T := TX2) (N := 13) hx hb hts iRX2 tyX2 tyX2_ok nmX2 hown hw 0 (by omega) dt15 rfl 6 (by decide) (hts (.fieldLink RX2 91 "LibraryDesk" "answeredCalls" "I") (by decide +kernel)) (fun _ h9 => h9) rfl (by decide +kernel) rfl rfl (Nat.le_of_ble_eq_true rfl) dX2_call_63 (fun en18 H locs hE17 hw => ?_)
      have he19 : en18 0 = .inr (3, [.ref (ad 1), .ref (ad tb), .ref (ad nb), .long ((tR (pl c1) z a A).2.2.2), .int ((tR (pl c1) z a A).1), .int tp2, .int (cs 0 + 1), .int (cs 1), .int (cs 2), .int (cs 3), .int (cs 4), .int (cs 5), .int (cs 6)]) := w_self hE17
      have he20 : en18 1 = .inl (q.2.2.2, 10, .inr (.inr (.inr (.inr gt15)))) := w_ne hE17 (by omega) et15
      have he21 : en18 tb = .inr (1, [.ref (ad (tb + 1)), .ref (ad (tb + 2)), .ref (ad (tb + 3)), .ref (ad (tb + 4)), .int (nI (aCn (tR (pl c1) z a A).2.2.1))]) := w_ne hE17 (by omega) n0t15
      have he22 : en18 (tb + 1) = .inl (q.1, 8, .inl mft15) := w_ne hE17 (by omega) n1t15
      have he23 : en18 (tb + 2) = .inl (q.2.1, 8, .inr (.inl vht15)) := w_ne hE17 (by omega) n2t15
      have he24 : en18 (tb + 3) = .inl (q.2.1, 8, .inr (.inl tft15)) := w_ne hE17 (by omega) n3t15
      have he25 : en18 (tb + 4) = .inl (q.2.1, 20, .inr (.inl vft15)) := w_ne hE17 (by omega) n4t15
      refine lv_aload_n hx hb dX2_call_66 rfl (lv_at hl 0 rfl) ?_
      refine wr_get (ci := 3) (C := RX2) (T := TX2) (N := 13) hx hb hts iRX2 hown hw 0 (by omega) he19 rfl 3 (by decide) (hts (.fieldLink RX2 94 "LibraryDesk" "trialAnswer" "J") (by decide +kernel)) (fun _ h9 => h9) rfl dX2_call_67 ?_
      refine we_l hx hb hr hlocks hw ?_ dX2_call_70
      have hS := sCall_ok (a := a) hc hnr c39
      refine ⟨hS.1.symm, ?_, fun j hj => (w_fr hE17 (by omega)).trans ((hfr2 j hj).trans (hfr1 j hj))⟩
      rw [hS.2.1, hS.2.2.1, hS.2.2.2 cs]
      exact ⟨tb, nb, _, _, _, _, DeskC_obj (cs' := upd cs 0 (cs 0 + 1)) hC2 ⟨rfl, rfl⟩ he19 (fun j hj => w_fr hE17 (by omega))⟩
    · refine lv_aload_n hx hb dX2_call_42 rfl (lv_at hl 0 rfl) ?_
      refine lv_iload_n hx hb dX2_call_43 rfl (lv_at hl 1 rfl) ?_
      refine lv_iload_n hx hb dX2_call_44 rfl (lv_at hl 2 rfl) ?_
      refine wc_v hw (va_runV (As := [.int (nI c1), .int z]) (rest := []) ⟨hx, hb, hml, hown, hts⟩ (kX2_noteFailure l dC dI q ad en10 n _ hn42 nb tb A (tR (pl c1) z a A).2.2.1 pl cs (tR (pl c1) z a A).2.2.2 (tR (pl c1) z a A).1 tp2 hC1 c1 hc z) (cwV 2 hts gX2_call_X2_noteFailure rfl rfl rfl (by decide +kernel) ⟨Nat.le_of_ble_eq_true rfl, Nat.le_of_ble_eq_true rfl⟩) (wk_preV hw (by omega) dt11 rfl) rfl rfl hl.1 rfl (lv_room (Nat.le_of_ble_eq_true rfl)) dX2_call_45 ⟨Nat.le_refl _, Nat.le_refl _⟩) (fun en28 H locs hp27 hw => ?_)
      obtain ⟨hC2, hfr2⟩ := hp27
      refine lv_ldc2 (v := (-9223372036854775806)) hx hb hown (hts (.constantLong RX2 86 (-9223372036854775806)) (by decide +kernel)) dX2_call_48 ?_
      refine we_l hx hb hr hlocks hw ?_ dX2_call_51
      have hS := sCall_fail (a := a) hc hnr c39
      refine ⟨hS.1.symm, ?_, fun j hj => (hfr2 j hj).trans (hfr1 j hj)⟩
      rw [hS.2.1, hS.2.2.1, hS.2.2.2 cs, ← hpl2 c39]
      exact ⟨nb, tb, _, _, _, _, hC2⟩
  · have href := z01_t hr5 c6
    refine lv_aload_n hx hb dX2_call_9 rfl (lv_at hl 0 rfl) ?_
    refine lv_dup hx hb dX2_call_10 rfl ?_
    refine wr_get (ci := 3) (C := RX2) (T := TX2) (N := 13) hx hb hts iRX2 hown hw 0 (by omega) dt1 rfl 7 (by decide) (hts (.fieldLink RX2 71 "LibraryDesk" "refusedCalls" "I") (by decide +kernel)) (fun _ h9 => h9) rfl dX2_call_11 ?_
    refine lv_iconst (v := 1) hx hb dX2_call_14 (by decide) ?_
    refine lv_iadd hx hb dX2_call_15 ?_
    refine lv_topi (fun x29 ex29 => ?_)
    have ex29n : x29 = cs 1 + 1 := ex29.trans (rfl)
    clear ex29
    subst ex29n
    refine wr_put (ci := 3) (v := .int (cs 1 + 1)) (ty := .int) (C := RX2) (T := TX2) (N := 13) hx hb hts iRX2 tyX2 tyX2_ok nmX2 hown hw 0 (by omega) dt1 rfl 7 (by decide) (hts (.fieldLink RX2 71 "LibraryDesk" "refusedCalls" "I") (by decide +kernel)) (fun _ h9 => h9) rfl (by decide +kernel) rfl rfl (Nat.le_of_ble_eq_true rfl) dX2_call_16 (fun en31 H locs hE30 hw => ?_)
    have he32 : en31 0 = .inr (3, [.ref (ad 1), .ref (ad nb), .ref (ad tb), .long ta, .int tw, .int tp, .int (cs 0), .int (cs 1 + 1), .int (cs 2), .int (cs 3), .int (cs 4), .int (cs 5), .int (cs 6)]) := w_self hE30
    have he33 : en31 1 = .inl (q.2.2.2, 10, .inr (.inr (.inr (.inr gt1)))) := w_ne hE30 (by omega) et1
    have he34 : en31 nb = .inr (1, [.ref (ad (nb + 1)), .ref (ad (nb + 2)), .ref (ad (nb + 3)), .ref (ad (nb + 4)), .int (nI (aCn A))]) := w_ne hE30 (by omega) n0t1
    have he35 : en31 (nb + 1) = .inl (q.1, 8, .inl mft1) := w_ne hE30 (by omega) n1t1
    have he36 : en31 (nb + 2) = .inl (q.2.1, 8, .inr (.inl vht1)) := w_ne hE30 (by omega) n2t1
    have he37 : en31 (nb + 3) = .inl (q.2.1, 8, .inr (.inl tft1)) := w_ne hE30 (by omega) n3t1
    have he38 : en31 (nb + 4) = .inl (q.2.1, 20, .inr (.inl vft1)) := w_ne hE30 (by omega) n4t1
    refine lv_ldc2 (v := (-9223372036854775807)) hx hb hown (hts (.constantLong RX2 74 (-9223372036854775807)) (by decide +kernel)) dX2_call_19 ?_
    refine we_l hx hb hr hlocks hw ?_ dX2_call_22
    have hS := sCall_ref (a := a) href
    refine ⟨hS.1.symm, ?_, fun j hj => w_fr hE30 (by omega)⟩
    rw [hS.2.1, hS.2.2.1, hS.2.2.2 cs]
    exact ⟨nb, tb, _, _, _, _, DeskC_obj (cs' := upd cs 1 (cs 1 + 1)) hC ⟨rfl, rfl⟩ he32 (fun j hj => w_fr hE30 (by omega))⟩

set_option maxHeartbeats 4000000 in
set_option maxRecDepth 100000 in
theorem kX2_again (l : Launch) (dC : Nat → ClassId) (dI : Nat → Nat → Nat) (q : ClassId × ClassId × ClassId × ClassId) (ad : Nat → Nat) (en : Nat → va_E) (n sz : Nat) (hn42 : 42 ≤ n) (A : Ast) (pl : Nat → Pst) (cs : Nat → Int32) (hok : Aok A) (hpok : ∀ i, i < 10 → Pok (pl i)) (hD : DeskAt q ad en A pl cs) (cv z : Int32) (a : Int64) :
    Met l yX2_again wsX2_again ({ frames := 5, cells := 0, slots := 0, locals := 115 }) (wPc (dC, dI) vwCl (wT q) ad en n sz [.ref (ad 0), .int cv, .int z, .long a]) (va_Ql (fun (r : Int64) (en' : Nat → va_E) => r = sCallR cv z a A pl ∧ DeskAt q ad en' A pl cs ∧ ∀ j, 42 ≤ j → en' j = en j) (wB (dC, dI) vwCl (wT q) ad n (wA ad n sz)) (wA ad n sz)) 0 0 (wA ad n sz) := by
  refine Met.ofW (cc := cX2_again) (maxL := 5) (ret := (some .long)) (by decide) rfl ?_
  intro p e s m args below meth c s₁ B hml hv
  obtain ⟨rfl, hsz, hP, hK, hD0, hE0⟩ := hv
  have hx := B.exec
  have hb := B.bytes
  have hr := B.returns
  have hts := atoms_spec (ws := wsX2_again) B.pre
  have hown : s.vm.findClass RX2 = some m.cls := findClass_of_methodNamed B.named
  have hlocks := B.notSynchronized
  have iRX2 : ∀ w ∈ u_ws RX2 TX2 13, w ∈ wsX2_again := by decide +kernel
  subst hsz
  have hw := wk_of hP hK hD0 hE0
  generalize wA ad n s.heap.size = AA at hw ⊢
  have hl := lv_entry ([.ref (ad 0), .int cv, .int z, .long a]) (n := 5) (Nat.le_of_ble_eq_true rfl)
  rw [lg_entry_eq]
  generalize (lg_sl ([.ref (ad 0), .int cv, .int z, .long a]) ++ List.replicate (5 - (lg_sl ([.ref (ad 0), .int cv, .int z, .long a])).length) Slot.unset).toArray = ls at hl ⊢
  have hl : lv_has ls 5 [(0, .ref (ad 0)), (1, .int cv), (2, .int z), (3, .long a)] := hl
  obtain ⟨nb, tb, Z, ta, tw, tp, hC⟩ := hD
  obtain ⟨hntt1, dt1, ⟨gt1, et1, hgt1⟩, hpt1, hNt1, hTt1⟩ := id hC
  obtain ⟨mft1, vht1, tft1, vft1, n0t1, n1t1, n2t1, n3t1, n4t1, hRt1⟩ := id hNt1
  have hnt := hntt1
  refine lv_aload_n hx hb dX2_again_0 rfl (lv_at hl 0 rfl) ?_
  refine lv_iload_n hx hb dX2_again_1 rfl (lv_at hl 1 rfl) ?_
  refine lv_iload_n hx hb dX2_again_2 rfl (lv_at hl 2 rfl) ?_
  refine wc_i hw (va_runV (As := [.int cv, .int z]) (rest := []) ⟨hx, hb, hml, hown, hts⟩ (kX2_isRefused l dC dI q ad en n _ hn42 A pl cs hok hpok ⟨nb, tb, Z, ta, tw, tp, hC⟩ cv z) (cwV 2 hts gX2_again_X2_isRefused rfl rfl rfl (by decide +kernel) ⟨Nat.le_of_ble_eq_true rfl, Nat.le_of_ble_eq_true rfl⟩) (wk_preV hw (by omega) dt1 rfl) rfl rfl hl.1 rfl (lv_room (Nat.le_of_ble_eq_true rfl)) dX2_again_3 ⟨Nat.le_refl _, Nat.le_refl _⟩) (fun r2 en4 H locs hp3 hw => ?_)
  obtain ⟨hr5, hn6⟩ := hp3
  rw [hn6] at hw
  clear hn6
  refine lv_if_eq (tgt := 13) hx hb dX2_again_6 (by decide) (fun c6 => ?_) (fun c6 => ?_)
  · have hnr := z01_f hr5 c6
    have hcv : okC cv := Decidable.of_not_not (fun h => hnr (Or.inl h))
    obtain ⟨c1, hc, ecv⟩ := okC_of hcv
    subst ecv
    obtain ⟨sfu7, kfu7, p0u7, p1u7, p2u7, p3u7⟩ := id (hpt1 c1 hc)
    refine lv_aload_n hx hb dX2_again_13 rfl (lv_at hl 0 rfl) ?_
    refine lv_aload_n hx hb dX2_again_14 rfl (lv_at hl 0 rfl) ?_
    refine wr_get (ci := 3) (C := RX2) (T := TX2) (N := 13) hx hb hts iRX2 hown hw 0 (by omega) dt1 rfl 0 (by decide) (hts (.fieldLink RX2 11 "LibraryDesk" "plans" "[LLibraryDesk$Plan;") (by decide +kernel)) (fun _ h9 => h9) rfl dX2_again_15 ?_
    refine lv_iload_n hx hb dX2_again_18 rfl (lv_at hl 1 rfl) ?_
    refine wr_aldq (q := ad (2 + 3 * c1)) hx hb hw 1 (by omega) 3 et1 rfl (vp_in_nI (by omega) (by decide)) (by rw [(nI_clamp (by omega))]; exact hgt1 c1 hc) dX2_again_19 ?_
    refine lv_iload_n hx hb dX2_again_20 rfl (lv_at hl 2 rfl) ?_
    refine lv_lload_n hx hb dX2_again_21 rfl (lv_at hl 3 rfl) ?_
    refine wc_v hw (va_runV (As := [.ref (ad (2 + 3 * c1)), .int z, .long a]) (rest := []) ⟨hx, hb, hml, hown, hts⟩ (kX2_tryActs l dC dI q ad en n _ hn42 nb tb A Z pl cs ta tw tp hC hok c1 hc (hpok c1 hc) z a) (cwV 3 hts gX2_again_X2_tryActs rfl rfl rfl (by decide +kernel) ⟨Nat.le_of_ble_eq_true rfl, Nat.le_of_ble_eq_true rfl⟩) (wk_preV hw (by omega) dt1 rfl) rfl rfl hl.1 rfl (lv_room (Nat.le_of_ble_eq_true rfl)) dX2_again_22 ⟨Nat.le_refl _, Nat.le_refl _⟩) (fun en10 H locs hp9 hw => ?_)
    obtain ⟨tp2, hC1, hpl2, hfr1⟩ := hp9
    obtain ⟨-, dt11, ⟨gt11, et11, hgt11⟩, hpt11, hNt11, hTt11⟩ := id hC1
    obtain ⟨mft11, vht11, tft11, vft11, n0t11, n1t11, n2t11, n3t11, n4t11, hRt11⟩ := id hNt11
    refine lv_aload_n hx hb dX2_again_25 rfl (lv_at hl 0 rfl) ?_
    refine wr_get (ci := 3) (C := RX2) (T := TX2) (N := 13) hx hb hts iRX2 hown hw 0 (by omega) dt11 rfl 4 (by decide) (hts (.fieldLink RX2 80 "LibraryDesk" "trialFailedWith" "I") (by decide +kernel)) (fun _ h9 => h9) rfl dX2_again_26 ?_
    refine lv_if_eq (tgt := 38) hx hb dX2_again_29 (by decide) (fun c29 => ?_) (fun c29 => ?_)
    · refine lv_aload_n hx hb dX2_again_38 rfl (lv_at hl 0 rfl) ?_
      refine wr_get (ci := 3) (C := RX2) (T := TX2) (N := 13) hx hb hts iRX2 hown hw 0 (by omega) dt11 rfl 3 (by decide) (hts (.fieldLink RX2 94 "LibraryDesk" "trialAnswer" "J") (by decide +kernel)) (fun _ h9 => h9) rfl dX2_again_39 ?_
      refine we_l hx hb hr hlocks hw ?_ dX2_again_42
      have hS := sCall_ok (a := a) hc hnr c29
      exact ⟨hS.1.symm, ⟨nb, tb, _, _, _, _, hC1⟩, fun j hj => hfr1 j hj⟩
    · refine lv_ldc2 (v := (-9223372036854775806)) hx hb hown (hts (.constantLong RX2 86 (-9223372036854775806)) (by decide +kernel)) dX2_again_32 ?_
      refine lv_goto (tgt := 42) hx hb dX2_again_35 (by decide) ?_
      refine we_l hx hb hr hlocks hw ?_ dX2_again_42
      have hS := sCall_fail (a := a) hc hnr c29
      exact ⟨hS.1.symm, ⟨nb, tb, _, _, _, _, hC1⟩, fun j hj => hfr1 j hj⟩
  · have href := z01_t hr5 c6
    refine lv_ldc2 (v := (-9223372036854775807)) hx hb hown (hts (.constantLong RX2 74 (-9223372036854775807)) (by decide +kernel)) dX2_again_9 ?_
    refine we_l hx hb hr hlocks hw ?_ dX2_again_12
    have hS := sCall_ref (a := a) href
    exact ⟨hS.1.symm, ⟨nb, tb, _, _, _, _, hC⟩, fun j hj => rfl⟩
