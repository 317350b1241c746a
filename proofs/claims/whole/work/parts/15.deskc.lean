theorem sTold_ok {k : Nat} {cs : Nat → Int32} (hk : k < 7) : sToldR (nI k) cs = cs k := by
  unfold sToldR
  have h : 0 ≤ nI k ∧ nI k < 7 := ⟨nI_pos' (by omega), nI_lt (b := 7) hk (by decide)⟩
  rw [if_pos h, nI_clamp (by omega)]
theorem told_out {x : Int32} (h : ¬ (0 ≤ x ∧ x < nI 7)) : x.toInt < 0 ∨ 6 < x.toInt := by
  rcases (show x.toInt < 0 ∨ 0 ≤ x.toInt by omega) with h1 | h1
  · exact Or.inl h1
  · refine Or.inr ?_
    rcases (show 6 < x.toInt ∨ x.toInt ≤ 6 by omega) with h2 | h2
    · exact h2
    · exact absurd ⟨Int32.le_iff_toInt_le.mpr (by simpa using h1), Int32.lt_iff_toInt_lt.mpr (by rw [nI_toInt (by decide)]; omega)⟩ h
theorem sRef_ok {c : Nat} {z : Int32} {A : Ast} {pl : Nat → Pst} (hc : c < 10) : sRef (nI c) z A pl ↔ (¬ (pl c).1 = -1 ∧ ¬ aIs (pl c).1 z A = true) := by
  unfold sRef
  rw [nI_clamp (by omega)]
  constructor
  · intro h
    exact h.resolve_left (fun w => w (okC_nI hc))
  · exact Or.inr
theorem aDo_0 {P : Pst} {i k : Nat} {z : Int32} {a x : Int64} {A : Ast} (hs : P.2.2.1 i = nI 0) (hk : P.2.2.2.1 i = nI k) (hk8 : k < 8) : aDo P i z a A x = (if aMd A k < 40 then 0 else 6, aMake k A, x) := by
  unfold aDo
  rw [hs, hk, nI_clamp (by omega), if_pos (show nI 0 = 0 by decide)]
theorem aDo_1 {P : Pst} {i k : Nat} {z : Int32} {a x : Int64} {A : Ast} (hs : P.2.2.1 i = nI 1) (hk : P.2.2.2.1 i = nI k) (hk8 : k < 8) : aDo P i z a A x = (if gr (aHr A k) 40 = 0 then (7, A, x) else (0, aDrop k (gr (aHr A k) 40) A, x)) := by
  unfold aDo
  rw [hs, hk, nI_clamp (by omega), if_neg (show ¬ nI 1 = 0 by decide), if_pos (show nI 1 = 1 by decide)]
theorem aDo_2 {P : Pst} {i k : Nat} {z : Int32} {a x : Int64} {A : Ast} (hs : P.2.2.1 i = nI 2) (hk : P.2.2.2.1 i = nI k) (hk8 : k < 8) : aDo P i z a A x = (0, aGrow k a A, x) := by
  unfold aDo
  rw [hs, hk, nI_clamp (by omega), if_neg (show ¬ nI 2 = 0 by decide), if_neg (show ¬ nI 2 = 1 by decide), if_pos (show nI 2 = 2 by decide)]
theorem aDo_3 {P : Pst} {i k : Nat} {z : Int32} {a x : Int64} {A : Ast} (hs : P.2.2.1 i = nI 3) (hk : P.2.2.2.1 i = nI k) (hk8 : k < 8) : aDo P i z a A x = (if 0 < aCn A then 0 else 8, aTake k A, x) := by
  unfold aDo
  rw [hs, hk, nI_clamp (by omega), if_neg (show ¬ nI 3 = 0 by decide), if_neg (show ¬ nI 3 = 1 by decide), if_neg (show ¬ nI 3 = 2 by decide), if_pos (show nI 3 = 3 by decide)]
theorem aDo_4 {P : Pst} {i k : Nat} {z : Int32} {a x : Int64} {A : Ast} (hs : P.2.2.1 i = nI 4) (hk : P.2.2.2.1 i = nI k) (hk8 : k < 8) : aDo P i z a A x = (0, A, 31 * x + aTl A k) := by
  unfold aDo
  rw [hs, hk, nI_clamp (by omega), if_neg (show ¬ nI 4 = 0 by decide), if_neg (show ¬ nI 4 = 1 by decide), if_neg (show ¬ nI 4 = 2 by decide), if_neg (show ¬ nI 4 = 3 by decide), if_pos (show nI 4 = 4 by decide)]
theorem aDo_5 {P : Pst} {i k : Nat} {z : Int32} {a x : Int64} {A : Ast} (hs : P.2.2.1 i = nI 5) (hk : P.2.2.2.1 i = nI k) (hk8 : k < 8) : aDo P i z a A x = (0, A, 31 * x + (nI (cn (aHr A k) 40)).toInt64) := by
  unfold aDo
  rw [hs, hk, nI_clamp (by omega), if_neg (show ¬ nI 5 = 0 by decide), if_neg (show ¬ nI 5 = 1 by decide), if_neg (show ¬ nI 5 = 2 by decide), if_neg (show ¬ nI 5 = 3 by decide), if_neg (show ¬ nI 5 = 4 by decide), if_pos (show nI 5 = 5 by decide)]
theorem aDo_6 {P : Pst} {i k : Nat} {z : Int32} {a x : Int64} {A : Ast} (hs : P.2.2.1 i = nI 6) : aDo P i z a A x = (if aIs P.1 z A = true then 0 else 7, aDropI P.1 z A, x) := by
  unfold aDo
  rw [hs, if_neg (show ¬ nI 6 = 0 by decide), if_neg (show ¬ nI 6 = 1 by decide), if_neg (show ¬ nI 6 = 2 by decide), if_neg (show ¬ nI 6 = 3 by decide), if_neg (show ¬ nI 6 = 4 by decide), if_neg (show ¬ nI 6 = 5 by decide)]
theorem drop_gr {k : Nat} {A : Ast} {r : Int32} (hk : k < 8) (hr : r = (if gr (aHr A k) 40 = 0 then -1 else nI (gr (aHr A k) 40))) : (aIs (nI k) r A = true ↔ ¬ gr (aHr A k) 40 = 0) ∧ (¬ gr (aHr A k) 40 = 0 → aDropI (nI k) r A = aDrop k (gr (aHr A k) 40) A) := by
  have hle := gr_le (aHr A k) 40
  by_cases h : gr (aHr A k) 40 = 0
  · rw [if_pos h] at hr
    refine ⟨⟨fun w => ?_, fun w => absurd h w⟩, fun w => absurd h w⟩
    rw [hr, aIs_z (by decide)] at w
    cases w
  · rw [if_neg h] at hr
    have hi := gr_is (aHr A k) 40 (by omega)
    have e : aIs (nI k) r A = true := by rw [hr, aIs_nI hk (by omega) hle]; exact hi
    exact ⟨⟨fun _ => h, fun _ => e⟩, fun _ => by rw [hr]; exact aDropI_nI hk (by omega) hle hi⟩
set_option maxHeartbeats 4000000 in
set_option maxRecDepth 100000 in
theorem kX2_told (l : Launch) (dC : Nat → ClassId) (dI : Nat → Nat → Nat) (q : ClassId × ClassId × ClassId × ClassId) (ad : Nat → Nat) (en : Nat → va_E) (n sz : Nat) (hn42 : 42 ≤ n) (A : Ast) (pl : Nat → Pst) (cs : Nat → Int32) (hok : Aok A) (hpok : ∀ i, i < 10 → Pok (pl i)) (hD : DeskAt q ad en A pl cs) (x : Int32) :
    Met l yX2_told wsX2_told ({ frames := 0, cells := 0, slots := 0, locals := 0 }) (wPc (dC, dI) vwCl (wT q) ad en n sz [.ref (ad 0), .int x]) (va_Qi (fun (r : Int32) (en' : Nat → va_E) => r = sToldR x cs ∧ en' = en) (wB (dC, dI) vwCl (wT q) ad n (wA ad n sz)) (wA ad n sz)) 0 0 (wA ad n sz) := by
  refine Met.ofW (cc := cX2_told) (maxL := 2) (ret := (some .int)) (by decide) rfl ?_
  intro p e s m args below meth c s₁ B hml hv
  obtain ⟨rfl, hsz, hP, hK, hD0, hE0⟩ := hv
  have hx := B.exec
  have hb := B.bytes
  have hr := B.returns
  have hts := atoms_spec (ws := wsX2_told) B.pre
  have hown : s.vm.findClass RX2 = some m.cls := findClass_of_methodNamed B.named
  have hlocks := B.notSynchronized
  have iRX2 : ∀ w ∈ u_ws RX2 TX2 13, w ∈ wsX2_told := by decide +kernel
  subst hsz
  have hw := wk_of hP hK hD0 hE0
  generalize wA ad n s.heap.size = AA at hw ⊢
  have hl := lv_entry ([.ref (ad 0), .int x]) (n := 2) (Nat.le_of_ble_eq_true rfl)
  rw [lg_entry_eq]
  generalize (lg_sl ([.ref (ad 0), .int x]) ++ List.replicate (2 - (lg_sl ([.ref (ad 0), .int x])).length) Slot.unset).toArray = ls at hl ⊢
  have hl : lv_has ls 2 [(0, .ref (ad 0)), (1, .int x)] := hl
  obtain ⟨nb, tb, Z, ta, tw, tp, hC⟩ := hD
  obtain ⟨hntt1, dt1, ⟨gt1, et1, hgt1⟩, hpt1, hNt1, hTt1⟩ := id hC
  obtain ⟨mft1, vht1, tft1, vft1, n0t1, n1t1, n2t1, n3t1, n4t1, hRt1⟩ := id hNt1
  have hnt := hntt1
  refine lv_iload_n hx hb dX2_told_0 rfl (lv_at hl 1 rfl) ?_
  rcases kd_cases x (n := 7) (by decide) with ⟨k, hk, rfl⟩ | hno
  · rcases (show k = 0 ∨ k = 1 ∨ k = 2 ∨ k = 3 ∨ k = 4 ∨ k = 5 ∨ k = 6 by omega) with rfl | rfl | rfl | rfl | rfl | rfl | rfl
    · refine lv_tableIn (off := 43) (tgt := 44) hx hb dX2_told_1 (by decide) (by decide) (by decide) (by decide) ?_
      refine lv_aload_n hx hb dX2_told_44 rfl (lv_at hl 0 rfl) ?_
      refine wr_get (ci := 3) (C := RX2) (T := TX2) (N := 13) hx hb hts iRX2 hown hw 0 (by omega) dt1 rfl 6 (by decide) (hts (.fieldLink RX2 91 "LibraryDesk" "answeredCalls" "I") (by decide +kernel)) (fun _ h9 => h9) rfl dX2_told_45 ?_
      refine we_i hx hb hr hlocks hw ?_ dX2_told_48
      exact ⟨(sTold_ok (k := 0) (by decide)).symm, rfl⟩
    · refine lv_tableIn (off := 48) (tgt := 49) hx hb dX2_told_1 (by decide) (by decide) (by decide) (by decide) ?_
      refine lv_aload_n hx hb dX2_told_49 rfl (lv_at hl 0 rfl) ?_
      refine wr_get (ci := 3) (C := RX2) (T := TX2) (N := 13) hx hb hts iRX2 hown hw 0 (by omega) dt1 rfl 7 (by decide) (hts (.fieldLink RX2 71 "LibraryDesk" "refusedCalls" "I") (by decide +kernel)) (fun _ h9 => h9) rfl dX2_told_50 ?_
      refine we_i hx hb hr hlocks hw ?_ dX2_told_53
      exact ⟨(sTold_ok (k := 1) (by decide)).symm, rfl⟩
    · refine lv_tableIn (off := 53) (tgt := 54) hx hb dX2_told_1 (by decide) (by decide) (by decide) (by decide) ?_
      refine lv_aload_n hx hb dX2_told_54 rfl (lv_at hl 0 rfl) ?_
      refine wr_get (ci := 3) (C := RX2) (T := TX2) (N := 13) hx hb hts iRX2 hown hw 0 (by omega) dt1 rfl 8 (by decide) (hts (.fieldLink RX2 98 "LibraryDesk" "failedCalls" "I") (by decide +kernel)) (fun _ h9 => h9) rfl dX2_told_55 ?_
      refine we_i hx hb hr hlocks hw ?_ dX2_told_58
      exact ⟨(sTold_ok (k := 2) (by decide)).symm, rfl⟩
    · refine lv_tableIn (off := 58) (tgt := 59) hx hb dX2_told_1 (by decide) (by decide) (by decide) (by decide) ?_
      refine lv_aload_n hx hb dX2_told_59 rfl (lv_at hl 0 rfl) ?_
      refine wr_get (ci := 3) (C := RX2) (T := TX2) (N := 13) hx hb hts iRX2 hown hw 0 (by omega) dt1 rfl 9 (by decide) (hts (.fieldLink RX2 101 "LibraryDesk" "lastFailedWith" "I") (by decide +kernel)) (fun _ h9 => h9) rfl dX2_told_60 ?_
      refine we_i hx hb hr hlocks hw ?_ dX2_told_63
      exact ⟨(sTold_ok (k := 3) (by decide)).symm, rfl⟩
    · refine lv_tableIn (off := 63) (tgt := 64) hx hb dX2_told_1 (by decide) (by decide) (by decide) (by decide) ?_
      refine lv_aload_n hx hb dX2_told_64 rfl (lv_at hl 0 rfl) ?_
      refine wr_get (ci := 3) (C := RX2) (T := TX2) (N := 13) hx hb hts iRX2 hown hw 0 (by omega) dt1 rfl 10 (by decide) (hts (.fieldLink RX2 104 "LibraryDesk" "lastFailedAct" "I") (by decide +kernel)) (fun _ h9 => h9) rfl dX2_told_65 ?_
      refine we_i hx hb hr hlocks hw ?_ dX2_told_68
      exact ⟨(sTold_ok (k := 4) (by decide)).symm, rfl⟩
    · refine lv_tableIn (off := 68) (tgt := 69) hx hb dX2_told_1 (by decide) (by decide) (by decide) (by decide) ?_
      refine lv_aload_n hx hb dX2_told_69 rfl (lv_at hl 0 rfl) ?_
      refine wr_get (ci := 3) (C := RX2) (T := TX2) (N := 13) hx hb hts iRX2 hown hw 0 (by omega) dt1 rfl 11 (by decide) (hts (.fieldLink RX2 107 "LibraryDesk" "lastFailedCall" "I") (by decide +kernel)) (fun _ h9 => h9) rfl dX2_told_70 ?_
      refine we_i hx hb hr hlocks hw ?_ dX2_told_73
      exact ⟨(sTold_ok (k := 5) (by decide)).symm, rfl⟩
    · refine lv_tableIn (off := 73) (tgt := 74) hx hb dX2_told_1 (by decide) (by decide) (by decide) (by decide) ?_
      refine lv_aload_n hx hb dX2_told_74 rfl (lv_at hl 0 rfl) ?_
      refine wr_get (ci := 3) (C := RX2) (T := TX2) (N := 13) hx hb hts iRX2 hown hw 0 (by omega) dt1 rfl 12 (by decide) (hts (.fieldLink RX2 110 "LibraryDesk" "lastFailedNumber" "I") (by decide +kernel)) (fun _ h9 => h9) rfl dX2_told_75 ?_
      refine we_i hx hb hr hlocks hw ?_ dX2_told_78
      exact ⟨(sTold_ok (k := 6) (by decide)).symm, rfl⟩
  · refine lv_tableOut (tgt := 79) hx hb dX2_told_1 (told_out hno) (by decide) ?_
    refine lv_iconst (v := (-1)) hx hb dX2_told_79 (by decide) ?_
    refine we_i hx hb hr hlocks hw ?_ dX2_told_80
    exact ⟨by unfold sToldR; rw [if_neg (show ¬ (0 ≤ x ∧ x < 7) from hno)], rfl⟩

set_option maxHeartbeats 4000000 in
set_option maxRecDepth 100000 in
theorem kX2_isRefused (l : Launch) (dC : Nat → ClassId) (dI : Nat → Nat → Nat) (q : ClassId × ClassId × ClassId × ClassId) (ad : Nat → Nat) (en : Nat → va_E) (n sz : Nat) (hn42 : 42 ≤ n) (A : Ast) (pl : Nat → Pst) (cs : Nat → Int32) (hok : Aok A) (hpok : ∀ i, i < 10 → Pok (pl i)) (hD : DeskAt q ad en A pl cs) (cv z : Int32) :
    Met l yX2_isRefused wsX2_isRefused ({ frames := 2, cells := 0, slots := 0, locals := 42 }) (wPc (dC, dI) vwCl (wT q) ad en n sz [.ref (ad 0), .int cv, .int z]) (va_Qi (fun (r : Int32) (en' : Nat → va_E) => r = (if sRef cv z A pl then 1 else 0) ∧ en' = en) (wB (dC, dI) vwCl (wT q) ad n (wA ad n sz)) (wA ad n sz)) 0 0 (wA ad n sz) := by
  refine Met.ofW (cc := cX2_isRefused) (maxL := 4) (ret := (some .boolean)) (by decide) rfl ?_
  intro p e s m args below meth c s₁ B hml hv
  obtain ⟨rfl, hsz, hP, hK, hD0, hE0⟩ := hv
  have hx := B.exec
  have hb := B.bytes
  have hr := B.returns
  have hts := atoms_spec (ws := wsX2_isRefused) B.pre
  have hown : s.vm.findClass RX2 = some m.cls := findClass_of_methodNamed B.named
  have hlocks := B.notSynchronized
  have iRX2 : ∀ w ∈ u_ws RX2 TX2 13, w ∈ wsX2_isRefused := by decide +kernel
  have iRX1 : ∀ w ∈ u_ws RX1 TX1 6, w ∈ wsX2_isRefused := by decide +kernel
  subst hsz
  have hw := wk_of hP hK hD0 hE0
  generalize wA ad n s.heap.size = AA at hw ⊢
  have hl := lv_entry ([.ref (ad 0), .int cv, .int z]) (n := 4) (Nat.le_of_ble_eq_true rfl)
  rw [lg_entry_eq]
  generalize (lg_sl ([.ref (ad 0), .int cv, .int z]) ++ List.replicate (4 - (lg_sl ([.ref (ad 0), .int cv, .int z])).length) Slot.unset).toArray = ls at hl ⊢
  have hl : lv_has ls 4 [(0, .ref (ad 0)), (1, .int cv), (2, .int z)] := hl
  obtain ⟨nb, tb, Z, ta, tw, tp, hC⟩ := hD
  obtain ⟨hntt1, dt1, ⟨gt1, et1, hgt1⟩, hpt1, hNt1, hTt1⟩ := id hC
  obtain ⟨mft1, vht1, tft1, vft1, n0t1, n1t1, n2t1, n3t1, n4t1, hRt1⟩ := id hNt1
  have hnt := hntt1
  refine lv_iload_n hx hb dX2_isRefused_0 rfl (lv_at hl 1 rfl) ?_
  refine wc_i hw (va_runS (As := [.int cv]) (rest := []) ⟨hx, hb, hml, hown, hts⟩ (kX2_isCall l dC dI q ad en n _ cv) (va_cwS 1 hts gX2_isRefused_X2_isCall rfl rfl rfl (by decide +kernel) ⟨Nat.le_of_ble_eq_true rfl, Nat.le_of_ble_eq_true rfl⟩) (wk_preS hw) rfl rfl hl.1 rfl (lv_room (Nat.le_of_ble_eq_true rfl)) dX2_isRefused_1 ⟨Nat.le_refl _, Nat.le_refl _⟩) (fun r2 en4 H locs hp3 hw => ?_)
  obtain ⟨hr5, hn6⟩ := hp3
  rw [hn6] at hw
  clear hn6
  refine lv_if_ne (tgt := 9) hx hb dX2_isRefused_4 (by decide) (fun c4 => ?_) (fun c4 => ?_)
  · have hcv := z01_t hr5 c4
    obtain ⟨c1, hc, ecv⟩ := okC_of hcv
    subst ecv
    obtain ⟨sfu7, kfu7, p0u7, p1u7, p2u7, p3u7⟩ := id (hpt1 c1 hc)
    refine lv_aload_n hx hb dX2_isRefused_9 rfl (lv_at hl 0 rfl) ?_
    refine wr_get (ci := 3) (C := RX2) (T := TX2) (N := 13) hx hb hts iRX2 hown hw 0 (by omega) dt1 rfl 0 (by decide) (hts (.fieldLink RX2 11 "LibraryDesk" "plans" "[LLibraryDesk$Plan;") (by decide +kernel)) (fun _ h9 => h9) rfl dX2_isRefused_10 ?_
    refine lv_iload_n hx hb dX2_isRefused_13 rfl (lv_at hl 1 rfl) ?_
    refine wr_aldq (q := ad (2 + 3 * c1)) hx hb hw 1 (by omega) 3 et1 rfl (vp_in_nI (by omega) (by decide)) (by rw [(nI_clamp (by omega))]; exact hgt1 c1 hc) dX2_isRefused_14 ?_
    refine wr_get (ci := 2) (C := RX1) (T := TX1) (N := 6) hx hb hts iRX1 hown hw (2 + 3 * c1) (by omega) p0u7 rfl 0 (by decide) (hts (.fieldLink RX2 41 "LibraryDesk$Plan" "wanted" "I") (by decide +kernel)) (fun _ h9 => h9) rfl dX2_isRefused_15 ?_
    refine lv_istore_n (lv' := [(3, .int ((pl c1).1)), (0, .ref (ad 0)), (1, .int (nI c1)), (2, .int z)]) hx hb dX2_isRefused_18 rfl hl (by decide) rfl (fun ls hl => ?_)
    refine lv_iload_n hx hb dX2_isRefused_19 rfl (lv_at hl 0 rfl) ?_
    refine lv_iconst (v := (-1)) hx hb dX2_isRefused_20 (by decide) ?_
    refine lv_icmp_eq (tgt := 40) hx hb dX2_isRefused_21 (by decide) (fun c21 => ?_) (fun c21 => ?_)
    · refine lv_iconst (v := 0) hx hb dX2_isRefused_40 (by decide) ?_
      refine we_z hx hb hr hlocks hw (Or.inl rfl) ?_ dX2_isRefused_41
      exact ⟨by rw [if_neg (fun h => ((sRef_ok hc).mp h).1 c21)], rfl⟩
    · refine lv_aload_n hx hb dX2_isRefused_24 rfl (lv_at hl 1 rfl) ?_
      refine wr_get (ci := 3) (C := RX2) (T := TX2) (N := 13) hx hb hts iRX2 hown hw 0 (by omega) dt1 rfl 1 (by decide) (hts (.fieldLink RX2 19 "LibraryDesk" "now" "LLibraryDesk$Holdings;") (by decide +kernel)) (fun _ h9 => h9) rfl dX2_isRefused_25 ?_
      refine lv_iload_n hx hb dX2_isRefused_28 rfl (lv_at hl 0 rfl) ?_
      refine lv_iload_n hx hb dX2_isRefused_29 rfl (lv_at hl 3 rfl) ?_
      refine wc_i hw (va_runV (As := [.int ((pl c1).1), .int z]) (rest := []) ⟨hx, hb, hml, hown, hts⟩ (kX0_isHere l dC dI q ad en n _ nb (by omega) A hok hNt1 ((pl c1).1) z) (cwV 2 hts gX2_isRefused_X0_isHere rfl rfl rfl (by decide +kernel) ⟨Nat.le_of_ble_eq_true rfl, Nat.le_of_ble_eq_true rfl⟩) (wk_preV hw (by omega) n0t1 rfl) rfl rfl hl.1 rfl (lv_room (Nat.le_of_ble_eq_true rfl)) dX2_isRefused_30 ⟨Nat.le_refl _, Nat.le_refl _⟩) (fun r8 en10 H locs hp9 hw => ?_)
      obtain ⟨hr11, hn12⟩ := hp9
      rw [hn12] at hw
      clear hn12
      refine lv_if_ne (tgt := 40) hx hb dX2_isRefused_33 (by decide) (fun c33 => ?_) (fun c33 => ?_)
      · have hh := z01_t hr11 c33
        refine lv_iconst (v := 0) hx hb dX2_isRefused_40 (by decide) ?_
        refine we_z hx hb hr hlocks hw (Or.inl rfl) ?_ dX2_isRefused_41
        exact ⟨by rw [if_neg (fun h => ((sRef_ok hc).mp h).2 hh)], rfl⟩
      · have hh := z01_f hr11 c33
        refine lv_iconst (v := 1) hx hb dX2_isRefused_36 (by decide) ?_
        refine lv_goto (tgt := 41) hx hb dX2_isRefused_37 (by decide) ?_
        refine we_z hx hb hr hlocks hw (Or.inr rfl) ?_ dX2_isRefused_41
        exact ⟨by rw [if_pos ((sRef_ok hc).mpr ⟨c21, hh⟩)], rfl⟩
  · have hcv := z01_f hr5 c4
    refine lv_iconst (v := 1) hx hb dX2_isRefused_7 (by decide) ?_
    refine we_z hx hb hr hlocks hw (Or.inr rfl) ?_ dX2_isRefused_8
    exact ⟨by rw [if_pos (Or.inl hcv)], rfl⟩

set_option maxHeartbeats 4000000 in
set_option maxRecDepth 100000 in
theorem kX2_keepTrial (l : Launch) (dC : Nat → ClassId) (dI : Nat → Nat → Nat) (q : ClassId × ClassId × ClassId × ClassId) (ad : Nat → Nat) (en : Nat → va_E) (n sz : Nat) (hn42 : 42 ≤ n) (nb tb : Nat) (A Z : Ast) (pl : Nat → Pst) (cs : Nat → Int32) (ta : Int64) (tw tp : Int32) (hC : DeskC q ad en nb tb A Z pl cs ta tw tp)  :
    Met l yX2_keepTrial wsX2_keepTrial ({ frames := 0, cells := 0, slots := 0, locals := 0 }) (wPc (dC, dI) vwCl (wT q) ad en n sz [.ref (ad 0)]) (va_Qv (fun (en' : Nat → va_E) => DeskC q ad en' tb nb Z A pl cs ta tw tp ∧ ∀ j, 42 ≤ j → en' j = en j) (wB (dC, dI) vwCl (wT q) ad n (wA ad n sz)) (wA ad n sz)) 0 0 (wA ad n sz) := by
  refine Met.ofW (cc := cX2_keepTrial) (maxL := 2) (ret := none) (by decide) rfl ?_
  intro p e s m args below meth c s₁ B hml hv
  obtain ⟨rfl, hsz, hP, hK, hD0, hE0⟩ := hv
  have hx := B.exec
  have hb := B.bytes
  have hr := B.returns
  have hts := atoms_spec (ws := wsX2_keepTrial) B.pre
  have hown : s.vm.findClass RX2 = some m.cls := findClass_of_methodNamed B.named
  have hlocks := B.notSynchronized
  have iRX2 : ∀ w ∈ u_ws RX2 TX2 13, w ∈ wsX2_keepTrial := by decide +kernel
  subst hsz
  have hw := wk_of hP hK hD0 hE0
  generalize wA ad n s.heap.size = AA at hw ⊢
  have hl := lv_entry ([.ref (ad 0)]) (n := 2) (Nat.le_of_ble_eq_true rfl)
  rw [lg_entry_eq]
  generalize (lg_sl ([.ref (ad 0)]) ++ List.replicate (2 - (lg_sl ([.ref (ad 0)])).length) Slot.unset).toArray = ls at hl ⊢
  have hl : lv_has ls 2 [(0, .ref (ad 0))] := hl
  obtain ⟨hntt1, dt1, ⟨gt1, et1, hgt1⟩, hpt1, hNt1, hTt1⟩ := id hC
  obtain ⟨mft1, vht1, tft1, vft1, n0t1, n1t1, n2t1, n3t1, n4t1, hRt1⟩ := id hNt1
  have hnt := hntt1
  refine lv_aload_n hx hb dX2_keepTrial_0 rfl (lv_at hl 0 rfl) ?_
  refine wr_get (ci := 3) (C := RX2) (T := TX2) (N := 13) hx hb hts iRX2 hown hw 0 (by omega) dt1 rfl 1 (by decide) (hts (.fieldLink RX2 19 "LibraryDesk" "now" "LLibraryDesk$Holdings;") (by decide +kernel)) (fun _ h9 => h9) rfl dX2_keepTrial_1 ?_
  refine lv_astore_n (lv' := [(1, .ref (ad nb)), (0, .ref (ad 0))]) hx hb dX2_keepTrial_4 rfl hl (by decide) rfl (fun ls hl => ?_)
  refine lv_aload_n hx hb dX2_keepTrial_5 rfl (lv_at hl 1 rfl) ?_
  refine lv_aload_n hx hb dX2_keepTrial_6 rfl (lv_at hl 1 rfl) ?_
  refine wr_get (ci := 3) (C := RX2) (T := TX2) (N := 13) hx hb hts iRX2 hown hw 0 (by omega) dt1 rfl 2 (by decide) (hts (.fieldLink RX2 23 "LibraryDesk" "trial" "LLibraryDesk$Holdings;") (by decide +kernel)) (fun _ h9 => h9) rfl dX2_keepTrial_7 ?_
  refine wr_put (ci := 3) (v := .ref (ad tb)) (ty := .object "LibraryDesk$Holdings") (C := RX2) (T := TX2) (N := 13) hx hb hts iRX2 tyX2 tyX2_ok nmX2 hown hw 0 (by omega) dt1 rfl 1 (by decide) (hts (.fieldLink RX2 19 "LibraryDesk" "now" "LLibraryDesk$Holdings;") (by decide +kernel)) (fun _ h9 => h9) rfl (by decide +kernel) rfl rfl (Nat.le_of_ble_eq_true rfl) dX2_keepTrial_10 (fun en3 H locs hE2 hw => ?_)
  have he4 : en3 0 = .inr (3, [.ref (ad 1), .ref (ad tb), .ref (ad tb), .long ta, .int tw, .int tp, .int (cs 0), .int (cs 1), .int (cs 2), .int (cs 3), .int (cs 4), .int (cs 5), .int (cs 6)]) := w_self hE2
  have he5 : en3 1 = .inl (q.2.2.2, 10, .inr (.inr (.inr (.inr gt1)))) := w_ne hE2 (by omega) et1
  have he6 : en3 nb = .inr (1, [.ref (ad (nb + 1)), .ref (ad (nb + 2)), .ref (ad (nb + 3)), .ref (ad (nb + 4)), .int (nI (aCn A))]) := w_ne hE2 (by omega) n0t1
  have he7 : en3 (nb + 1) = .inl (q.1, 8, .inl mft1) := w_ne hE2 (by omega) n1t1
  have he8 : en3 (nb + 2) = .inl (q.2.1, 8, .inr (.inl vht1)) := w_ne hE2 (by omega) n2t1
  have he9 : en3 (nb + 3) = .inl (q.2.1, 8, .inr (.inl tft1)) := w_ne hE2 (by omega) n3t1
  have he10 : en3 (nb + 4) = .inl (q.2.1, 20, .inr (.inl vft1)) := w_ne hE2 (by omega) n4t1
  refine lv_aload_n hx hb dX2_keepTrial_13 rfl (lv_at hl 1 rfl) ?_
  refine lv_aload_n hx hb dX2_keepTrial_14 rfl (lv_at hl 0 rfl) ?_
  refine wr_put (ci := 3) (v := .ref (ad nb)) (ty := .object "LibraryDesk$Holdings") (C := RX2) (T := TX2) (N := 13) hx hb hts iRX2 tyX2 tyX2_ok nmX2 hown hw 0 (by omega) he4 rfl 2 (by decide) (hts (.fieldLink RX2 23 "LibraryDesk" "trial" "LLibraryDesk$Holdings;") (by decide +kernel)) (fun _ h9 => h9) rfl (by decide +kernel) rfl rfl (Nat.le_of_ble_eq_true rfl) dX2_keepTrial_15 (fun en12 H locs hE11 hw => ?_)
  have he13 : en12 0 = .inr (3, [.ref (ad 1), .ref (ad tb), .ref (ad nb), .long ta, .int tw, .int tp, .int (cs 0), .int (cs 1), .int (cs 2), .int (cs 3), .int (cs 4), .int (cs 5), .int (cs 6)]) := w_self hE11
  have he14 : en12 1 = .inl (q.2.2.2, 10, .inr (.inr (.inr (.inr gt1)))) := w_ne hE11 (by omega) he5
  have he15 : en12 nb = .inr (1, [.ref (ad (nb + 1)), .ref (ad (nb + 2)), .ref (ad (nb + 3)), .ref (ad (nb + 4)), .int (nI (aCn A))]) := w_ne hE11 (by omega) he6
  have he16 : en12 (nb + 1) = .inl (q.1, 8, .inl mft1) := w_ne hE11 (by omega) he7
  have he17 : en12 (nb + 2) = .inl (q.2.1, 8, .inr (.inl vht1)) := w_ne hE11 (by omega) he8
  have he18 : en12 (nb + 3) = .inl (q.2.1, 8, .inr (.inl tft1)) := w_ne hE11 (by omega) he9
  have he19 : en12 (nb + 4) = .inl (q.2.1, 20, .inr (.inl vft1)) := w_ne hE11 (by omega) he10
  refine we_v hx hb hr hlocks hw ?_ dX2_keepTrial_18
  exact ⟨DeskC_swap hC he13 (fun j hj => (w_fr hE11 (by omega)).trans (w_fr hE2 (by omega))), fun j hj => (w_fr hE11 (by omega)).trans (w_fr hE2 (by omega))⟩

set_option maxHeartbeats 4000000 in
set_option maxRecDepth 100000 in
theorem kX2_doAct (l : Launch) (dC : Nat → ClassId) (dI : Nat → Nat → Nat) (q : ClassId × ClassId × ClassId × ClassId) (ad : Nat → Nat) (en : Nat → va_E) (n sz : Nat) (hn42 : 42 ≤ n) (nb tb : Nat) (A Z : Ast) (pl : Nat → Pst) (cs : Nat → Int32) (ta : Int64) (tw tp : Int32) (hC : DeskC q ad en nb tb A Z pl cs ta tw tp) (hokZ : Aok Z) (c1 : Nat) (hc : c1 < 10) (hpk : Pok (pl c1)) (i : Nat) (hi : i < (pl c1).2.1) (z : Int32) (a : Int64) :
    Met l yX2_doAct wsX2_doAct ({ frames := 3, cells := 0, slots := 0, locals := 64 }) (wPc (dC, dI) vwCl (wT q) ad en n sz [.ref (ad 0), .ref (ad (2 + 3 * c1)), .int (nI i), .int z, .long a]) (va_Qi (fun (r : Int32) (en' : Nat → va_E) => r = (aDo (pl c1) i z a Z ta).1 ∧ DeskC q ad en' nb tb A (aDo (pl c1) i z a Z ta).2.1 pl cs (aDo (pl c1) i z a Z ta).2.2 tw tp ∧ ∀ j, 42 ≤ j → en' j = en j) (wB (dC, dI) vwCl (wT q) ad n (wA ad n sz)) (wA ad n sz)) 0 0 (wA ad n sz) := by
  refine Met.ofW (cc := cX2_doAct) (maxL := 7) (ret := (some .int)) (by decide) rfl ?_
  intro p e s m args below meth c s₁ B hml hv
  obtain ⟨rfl, hsz, hP, hK, hD0, hE0⟩ := hv
  have hx := B.exec
  have hb := B.bytes
  have hr := B.returns
  have hts := atoms_spec (ws := wsX2_doAct) B.pre
  have hown : s.vm.findClass RX2 = some m.cls := findClass_of_methodNamed B.named
  have hlocks := B.notSynchronized
  have iRX2 : ∀ w ∈ u_ws RX2 TX2 13, w ∈ wsX2_doAct := by decide +kernel
  have iRX1 : ∀ w ∈ u_ws RX1 TX1 6, w ∈ wsX2_doAct := by decide +kernel
  have iRX0 : ∀ w ∈ u_ws RX0 TX0 5, w ∈ wsX2_doAct := by decide +kernel
  subst hsz
  have hw := wk_of hP hK hD0 hE0
  generalize wA ad n s.heap.size = AA at hw ⊢
  have hl := lv_entry ([.ref (ad 0), .ref (ad (2 + 3 * c1)), .int (nI i), .int z, .long a]) (n := 7) (Nat.le_of_ble_eq_true rfl)
  rw [lg_entry_eq]
  generalize (lg_sl ([.ref (ad 0), .ref (ad (2 + 3 * c1)), .int (nI i), .int z, .long a]) ++ List.replicate (7 - (lg_sl ([.ref (ad 0), .ref (ad (2 + 3 * c1)), .int (nI i), .int z, .long a])).length) Slot.unset).toArray = ls at hl ⊢
  have hl : lv_has ls 7 [(0, .ref (ad 0)), (1, .ref (ad (2 + 3 * c1))), (2, .int (nI i)), (3, .int z), (4, .long a)] := hl
  obtain ⟨hntt1, dt1, ⟨gt1, et1, hgt1⟩, hpt1, hNt1, hTt1⟩ := id hC
  obtain ⟨mft1, vht1, tft1, vft1, n0t1, n1t1, n2t1, n3t1, n4t1, hRt1⟩ := id hNt1
  obtain ⟨mzt1, vzt1, tzt1, wzt1, z0t1, z1t1, z2t1, z3t1, z4t1, hZt1⟩ := id hTt1
  have hnt := hntt1
  obtain ⟨sfu2, kfu2, p0u2, p1u2, p2u2, p3u2⟩ := id (hpt1 c1 hc)
  obtain ⟨k, hk, ekk⟩ := okK_of (hpk.2.1 i hi).2
  obtain ⟨s7, hs7, ess⟩ : ∃ s7, s7 < 7 ∧ (pl c1).2.2.1 i = nI s7 := (kd_cases _ (by decide)).resolve_right (fun h => h ⟨(hpk.2.1 i hi).1.1, Int32.lt_of_le_of_lt (hpk.2.1 i hi).1.2 (by decide)⟩)
  have hi6 : i < 6 := Nat.lt_of_lt_of_le hi hpk.1
  refine lv_aload_n hx hb dX2_doAct_0 rfl (lv_at hl 1 rfl) ?_
  refine wr_get (ci := 2) (C := RX1) (T := TX1) (N := 6) hx hb hts iRX1 hown hw (2 + 3 * c1) (by omega) p0u2 rfl 3 (by decide) (hts (.fieldLink RX2 151 "LibraryDesk$Plan" "kinds" "[I") (by decide +kernel)) (fun _ h9 => h9) rfl dX2_doAct_1 ?_
  refine lv_iload_n hx hb dX2_doAct_4 rfl (lv_at hl 2 rfl) ?_
  refine wr_iald (v := nI k) hx hb hw (2 + 3 * c1 + 2) (by omega) 0 p2u2 rfl (vp_in_nI (by omega) (by decide)) (by rw [(nI_clamp (by omega))]; exact (p3u2 i hi).2.trans ekk) dX2_doAct_5 ?_
  refine lv_istore (lv' := [(6, .int (nI k)), (0, .ref (ad 0)), (1, .ref (ad (2 + 3 * c1))), (2, .int (nI i)), (3, .int z), (4, .long a)]) hx hb dX2_doAct_6 hl (by decide) rfl (fun ls hl => ?_)
  refine lv_aload_n hx hb dX2_doAct_8 rfl (lv_at hl 2 rfl) ?_
  refine wr_get (ci := 2) (C := RX1) (T := TX1) (N := 6) hx hb hts iRX1 hown hw (2 + 3 * c1) (by omega) p0u2 rfl 2 (by decide) (hts (.fieldLink RX2 154 "LibraryDesk$Plan" "sorts" "[I") (by decide +kernel)) (fun _ h9 => h9) rfl dX2_doAct_9 ?_
  refine lv_iload_n hx hb dX2_doAct_12 rfl (lv_at hl 3 rfl) ?_
  refine wr_iald (v := nI s7) hx hb hw (2 + 3 * c1 + 1) (by omega) 0 p1u2 rfl (vp_in_nI (by omega) (by decide)) (by rw [(nI_clamp (by omega))]; exact (p3u2 i hi).1.trans ess) dX2_doAct_13 ?_
  rcases (show s7 = 0 ∨ s7 = 1 ∨ s7 = 2 ∨ s7 = 3 ∨ s7 = 4 ∨ s7 = 5 ∨ s7 = 6 by omega) with rfl | rfl | rfl | rfl | rfl | rfl | rfl
  · refine lv_tableIn (off := 38) (tgt := 52) hx hb dX2_doAct_14 (by decide) (by decide) (by decide) (by decide) ?_
    refine lv_aload_n hx hb dX2_doAct_52 rfl (lv_at hl 1 rfl) ?_
    refine wr_get (ci := 3) (C := RX2) (T := TX2) (N := 13) hx hb hts iRX2 hown hw 0 (by omega) dt1 rfl 2 (by decide) (hts (.fieldLink RX2 23 "LibraryDesk" "trial" "LLibraryDesk$Holdings;") (by decide +kernel)) (fun _ h9 => h9) rfl dX2_doAct_53 ?_
    refine lv_iload hx hb dX2_doAct_56 (lv_at hl 0 rfl) ?_
    refine wc_i hw (va_runV (As := [.int (nI k)]) (rest := []) ⟨hx, hb, hml, hown, hts⟩ (kX0_makeNumber l dC dI q ad en n _ tb (by omega) Z hokZ hTt1 k hk) (cwV 1 hts gX2_doAct_X0_makeNumber rfl rfl rfl (by decide +kernel) ⟨Nat.le_of_ble_eq_true rfl, Nat.le_of_ble_eq_true rfl⟩) (wk_preV hw (by omega) z0t1 rfl) rfl rfl hl.1 rfl (lv_room (Nat.le_of_ble_eq_true rfl)) dX2_doAct_58 ⟨Nat.le_refl _, Nat.le_refl _⟩) (fun r3 en5 H locs hp4 hw => ?_)
    obtain ⟨hr1, hH1, hfr1⟩ := hp4
    have hC1 := DeskC_trial hC hH1 hfr1
    obtain ⟨-, dt6, ⟨gt6, et6, hgt6⟩, hpt6, hNt6, hTt6⟩ := id hC1
    obtain ⟨mft6, vht6, tft6, vft6, n0t6, n1t6, n2t6, n3t6, n4t6, hRt6⟩ := id hNt6
    obtain ⟨mzt6, vzt6, tzt6, wzt6, z0t6, z1t6, z2t6, z3t6, z4t6, hZt6⟩ := id hTt6
    refine lv_if_eq (tgt := 68) hx hb dX2_doAct_61 (by decide) (fun c61 => ?_) (fun c61 => ?_)
    · refine lv_bipush (v := 6) hx hb dX2_doAct_68 (by decide) ?_
      refine we_i hx hb hr hlocks hw ?_ dX2_doAct_70
      have hA := aDo_0 (z := z) (a := a) (A := Z) (x := ta) ess ekk hk
      rw [hA]
      exact ⟨by rw [if_neg (z01_f hr1 c61)], hC1, fun j hj => hfr1 j (by omega)⟩
    · refine lv_iconst (v := 0) hx hb dX2_doAct_64 (by decide) ?_
      refine lv_goto (tgt := 70) hx hb dX2_doAct_65 (by decide) ?_
      refine we_i hx hb hr hlocks hw ?_ dX2_doAct_70
      have hA := aDo_0 (z := z) (a := a) (A := Z) (x := ta) ess ekk hk
      rw [hA]
      exact ⟨by rw [if_pos (z01_t hr1 c61)], hC1, fun j hj => hfr1 j (by omega)⟩
  · refine lv_tableIn (off := 57) (tgt := 71) hx hb dX2_doAct_14 (by decide) (by decide) (by decide) (by decide) ?_
    refine lv_aload_n hx hb dX2_doAct_71 rfl (lv_at hl 1 rfl) ?_
    refine wr_get (ci := 3) (C := RX2) (T := TX2) (N := 13) hx hb hts iRX2 hown hw 0 (by omega) dt1 rfl 2 (by decide) (hts (.fieldLink RX2 23 "LibraryDesk" "trial" "LLibraryDesk$Holdings;") (by decide +kernel)) (fun _ h9 => h9) rfl dX2_doAct_72 ?_
    refine lv_iload hx hb dX2_doAct_75 (lv_at hl 0 rfl) ?_
    refine lv_aload_n hx hb dX2_doAct_77 rfl (lv_at hl 1 rfl) ?_
    refine wr_get (ci := 3) (C := RX2) (T := TX2) (N := 13) hx hb hts iRX2 hown hw 0 (by omega) dt1 rfl 2 (by decide) (hts (.fieldLink RX2 23 "LibraryDesk" "trial" "LLibraryDesk$Holdings;") (by decide +kernel)) (fun _ h9 => h9) rfl dX2_doAct_78 ?_
    refine lv_iload hx hb dX2_doAct_81 (lv_at hl 0 rfl) ?_
    refine wc_i hw (va_runV (As := [.int (nI k)]) (rest := [.int (nI k), .ref (ad tb)]) ⟨hx, hb, hml, hown, hts⟩ (kX0_greatestHere l dC dI q ad en n _ tb (by omega) Z hokZ hTt1 k hk) (cwV 1 hts gX2_doAct_X0_greatestHere rfl rfl rfl (by decide +kernel) ⟨Nat.le_of_ble_eq_true rfl, Nat.le_of_ble_eq_true rfl⟩) (wk_preV hw (by omega) z0t1 rfl) rfl rfl hl.1 rfl (lv_room (Nat.le_of_ble_eq_true rfl)) dX2_doAct_83 ⟨Nat.le_refl _, Nat.le_refl _⟩) (fun r7 en9 H locs hp8 hw => ?_)
    obtain ⟨hr10, hn11⟩ := hp8
    rw [hn11] at hw
    clear hn11
    have hgr := hr10
    refine wc_i hw (va_runV (As := [.int (nI k), .int r7]) (rest := []) ⟨hx, hb, hml, hown, hts⟩ (kX0_dropNumber l dC dI q ad en n _ tb (by omega) Z hokZ hTt1 (nI k) r7) (cwV 2 hts gX2_doAct_X0_dropNumber rfl rfl rfl (by decide +kernel) ⟨Nat.le_of_ble_eq_true rfl, Nat.le_of_ble_eq_true rfl⟩) (wk_preV hw (by omega) z0t1 rfl) rfl rfl hl.1 rfl (lv_room (Nat.le_of_ble_eq_true rfl)) dX2_doAct_86 ⟨Nat.le_refl _, Nat.le_refl _⟩) (fun r12 en14 H locs hp13 hw => ?_)
    obtain ⟨hr1, hH1, hfr1⟩ := hp13
    have hC1 := DeskC_trial hC hH1 hfr1
    obtain ⟨-, dt15, ⟨gt15, et15, hgt15⟩, hpt15, hNt15, hTt15⟩ := id hC1
    obtain ⟨mft15, vht15, tft15, vft15, n0t15, n1t15, n2t15, n3t15, n4t15, hRt15⟩ := id hNt15
    obtain ⟨mzt15, vzt15, tzt15, wzt15, z0t15, z1t15, z2t15, z3t15, z4t15, hZt15⟩ := id hTt15
    refine lv_if_eq (tgt := 96) hx hb dX2_doAct_89 (by decide) (fun c89 => ?_) (fun c89 => ?_)
    · refine lv_bipush (v := 7) hx hb dX2_doAct_96 (by decide) ?_
      refine we_i hx hb hr hlocks hw ?_ dX2_doAct_98
      have hA := aDo_1 (z := z) (a := a) (A := Z) (x := ta) ess ekk hk
      have hG := drop_gr hk hgr
      have hg0 : gr (aHr Z k) 40 = 0 := Decidable.of_not_not (fun h => z01_f hr1 c89 (hG.1.mpr h))
      rw [hA, if_pos hg0]
      rw [aDropI_no (z01_f hr1 c89)] at hC1
      exact ⟨rfl, hC1, fun j hj => hfr1 j (by omega)⟩
    · refine lv_iconst (v := 0) hx hb dX2_doAct_92 (by decide) ?_
      refine lv_goto (tgt := 98) hx hb dX2_doAct_93 (by decide) ?_
      refine we_i hx hb hr hlocks hw ?_ dX2_doAct_98
      have hA := aDo_1 (z := z) (a := a) (A := Z) (x := ta) ess ekk hk
      have hG := drop_gr hk hgr
      have hg0 := hG.1.mp (z01_t hr1 c89)
      rw [hA, if_neg hg0]
      rw [(hG.2 hg0)] at hC1
      exact ⟨rfl, hC1, fun j hj => hfr1 j (by omega)⟩
  · refine lv_tableIn (off := 85) (tgt := 99) hx hb dX2_doAct_14 (by decide) (by decide) (by decide) (by decide) ?_
    refine lv_aload_n hx hb dX2_doAct_99 rfl (lv_at hl 1 rfl) ?_
    refine wr_get (ci := 3) (C := RX2) (T := TX2) (N := 13) hx hb hts iRX2 hown hw 0 (by omega) dt1 rfl 2 (by decide) (hts (.fieldLink RX2 23 "LibraryDesk" "trial" "LLibraryDesk$Holdings;") (by decide +kernel)) (fun _ h9 => h9) rfl dX2_doAct_100 ?_
    refine wr_get (ci := 1) (C := RX0) (T := TX0) (N := 5) hx hb hts iRX0 hown hw tb (by omega) z0t1 rfl 2 (by decide) (hts (.fieldLink RX2 120 "LibraryDesk$Holdings" "tallies" "[J") (by decide +kernel)) (fun _ h9 => h9) rfl dX2_doAct_103 ?_
    refine lv_iload hx hb dX2_doAct_106 (lv_at hl 0 rfl) ?_
    refine lv_dup2_11 hx hb dX2_doAct_108 rfl rfl ?_
    refine wr_lald (v := tzt1 k) hx hb hw (tb + 3) (by omega) 1 z3t1 rfl (vp_in_nI (by omega) (by decide)) (by rw [(nI_clamp (by omega))]) dX2_doAct_109 ?_
    refine lv_lload hx hb dX2_doAct_110 (lv_at hl 5 rfl) ?_
    refine lv_ladd hx hb dX2_doAct_112 ?_
    refine lv_topl (fun x16 ex16 => ?_)
    have ex16n : x16 = tzt1 k + a := ex16.trans (rfl)
    clear ex16
    subst ex16n
    refine wr_last (j := k) hx hb hw (tb + 3) (by omega) 1 z3t1 rfl (vp_in_nI (by omega) (by decide)) (nI_clamp (by omega)) dX2_doAct_113 (fun en18 H locs hE17 hw => ?_)
    have he19 : en18 0 = .inr (3, [.ref (ad 1), .ref (ad nb), .ref (ad tb), .long ta, .int tw, .int tp, .int (cs 0), .int (cs 1), .int (cs 2), .int (cs 3), .int (cs 4), .int (cs 5), .int (cs 6)]) := w_ne hE17 (by omega) dt1
    have he20 : en18 1 = .inl (q.2.2.2, 10, .inr (.inr (.inr (.inr gt1)))) := w_ne hE17 (by omega) et1
    have he21 : en18 nb = .inr (1, [.ref (ad (nb + 1)), .ref (ad (nb + 2)), .ref (ad (nb + 3)), .ref (ad (nb + 4)), .int (nI (aCn A))]) := w_ne hE17 (by omega) n0t1
    have he22 : en18 (nb + 1) = .inl (q.1, 8, .inl mft1) := w_ne hE17 (by omega) n1t1
    have he23 : en18 (nb + 2) = .inl (q.2.1, 8, .inr (.inl vht1)) := w_ne hE17 (by omega) n2t1
    have he24 : en18 (nb + 3) = .inl (q.2.1, 8, .inr (.inl tft1)) := w_ne hE17 (by omega) n3t1
    have he25 : en18 (nb + 4) = .inl (q.2.1, 20, .inr (.inl vft1)) := w_ne hE17 (by omega) n4t1
    have he26 : en18 tb = .inr (1, [.ref (ad (tb + 1)), .ref (ad (tb + 2)), .ref (ad (tb + 3)), .ref (ad (tb + 4)), .int (nI (aCn Z))]) := w_ne hE17 (by omega) z0t1
    have he27 : en18 (tb + 1) = .inl (q.1, 8, .inl mzt1) := w_ne hE17 (by omega) z1t1
    have he28 : en18 (tb + 2) = .inl (q.2.1, 8, .inr (.inl vzt1)) := w_ne hE17 (by omega) z2t1
    have he29 : en18 (tb + 3) = .inl (q.2.1, 8, .inr (.inl (vp_updL tzt1 k (tzt1 k + a)))) := w_self hE17
    have he30 : en18 (tb + 4) = .inl (q.2.1, 20, .inr (.inl wzt1)) := w_ne hE17 (by omega) z4t1
    have he31 : en18 (2 + 3 * c1) = .inr (2, [.int ((pl c1).1), .int (nI (pl c1).2.1), .ref (ad (2 + 3 * c1 + 1)), .ref (ad (2 + 3 * c1 + 2)), .int ((pl c1).2.2.2.2.1), .int ((pl c1).2.2.2.2.2)]) := w_ne hE17 (by omega) p0u2
    have he32 : en18 (2 + 3 * c1 + 1) = .inl (q.1, 6, .inl sfu2) := w_ne hE17 (by omega) p1u2
    have he33 : en18 (2 + 3 * c1 + 2) = .inl (q.1, 6, .inl kfu2) := w_ne hE17 (by omega) p2u2
    refine lv_iconst (v := 0) hx hb dX2_doAct_114 (by decide) ?_
    refine we_i hx hb hr hlocks hw ?_ dX2_doAct_115
    have hA := aDo_2 (z := z) (a := a) (A := Z) (x := ta) ess ekk hk
    rw [hA]
    exact ⟨rfl, DeskC_trial hC ⟨_, _, _, _, he26, he27, he28, he29, he30, RC_grow hZt1 hk a⟩ (fun j hj => w_fr hE17 (by omega)), fun j hj => w_fr hE17 (by omega)⟩
  · refine lv_tableIn (off := 102) (tgt := 116) hx hb dX2_doAct_14 (by decide) (by decide) (by decide) (by decide) ?_
    refine lv_aload_n hx hb dX2_doAct_116 rfl (lv_at hl 1 rfl) ?_
    refine wr_get (ci := 3) (C := RX2) (T := TX2) (N := 13) hx hb hts iRX2 hown hw 0 (by omega) dt1 rfl 2 (by decide) (hts (.fieldLink RX2 23 "LibraryDesk" "trial" "LLibraryDesk$Holdings;") (by decide +kernel)) (fun _ h9 => h9) rfl dX2_doAct_117 ?_
    refine lv_iload hx hb dX2_doAct_120 (lv_at hl 0 rfl) ?_
    refine wc_i hw (va_runV (As := [.int (nI k)]) (rest := []) ⟨hx, hb, hml, hown, hts⟩ (kX0_moveFirstValueTo l dC dI q ad en n _ tb (by omega) Z hokZ hTt1 k hk) (cwV 1 hts gX2_doAct_X0_moveFirstValueTo rfl rfl rfl (by decide +kernel) ⟨Nat.le_of_ble_eq_true rfl, Nat.le_of_ble_eq_true rfl⟩) (wk_preV hw (by omega) z0t1 rfl) rfl rfl hl.1 rfl (lv_room (Nat.le_of_ble_eq_true rfl)) dX2_doAct_122 ⟨Nat.le_refl _, Nat.le_refl _⟩) (fun r34 en36 H locs hp35 hw => ?_)
    obtain ⟨hr1, hH1, hfr1⟩ := hp35
    have hC1 := DeskC_trial hC hH1 hfr1
    obtain ⟨-, dt37, ⟨gt37, et37, hgt37⟩, hpt37, hNt37, hTt37⟩ := id hC1
    obtain ⟨mft37, vht37, tft37, vft37, n0t37, n1t37, n2t37, n3t37, n4t37, hRt37⟩ := id hNt37
    obtain ⟨mzt37, vzt37, tzt37, wzt37, z0t37, z1t37, z2t37, z3t37, z4t37, hZt37⟩ := id hTt37
    refine lv_if_eq (tgt := 132) hx hb dX2_doAct_125 (by decide) (fun c125 => ?_) (fun c125 => ?_)
    · refine lv_bipush (v := 8) hx hb dX2_doAct_132 (by decide) ?_
      refine we_i hx hb hr hlocks hw ?_ dX2_doAct_134
      have hA := aDo_3 (z := z) (a := a) (A := Z) (x := ta) ess ekk hk
      rw [hA]
      exact ⟨by rw [if_neg (z01_f hr1 c125)], hC1, fun j hj => hfr1 j (by omega)⟩
    · refine lv_iconst (v := 0) hx hb dX2_doAct_128 (by decide) ?_
      refine lv_goto (tgt := 134) hx hb dX2_doAct_129 (by decide) ?_
      refine we_i hx hb hr hlocks hw ?_ dX2_doAct_134
      have hA := aDo_3 (z := z) (a := a) (A := Z) (x := ta) ess ekk hk
      rw [hA]
      exact ⟨by rw [if_pos (z01_t hr1 c125)], hC1, fun j hj => hfr1 j (by omega)⟩
  · refine lv_tableIn (off := 121) (tgt := 135) hx hb dX2_doAct_14 (by decide) (by decide) (by decide) (by decide) ?_
    refine lv_aload_n hx hb dX2_doAct_135 rfl (lv_at hl 1 rfl) ?_
    refine lv_ldc2 (v := 31) hx hb hown (hts (.constantLong RX2 163 (31)) (by decide +kernel)) dX2_doAct_136 ?_
    refine lv_aload_n hx hb dX2_doAct_139 rfl (lv_at hl 1 rfl) ?_
    refine wr_get (ci := 3) (C := RX2) (T := TX2) (N := 13) hx hb hts iRX2 hown hw 0 (by omega) dt1 rfl 3 (by decide) (hts (.fieldLink RX2 94 "LibraryDesk" "trialAnswer" "J") (by decide +kernel)) (fun _ h9 => h9) rfl dX2_doAct_140 ?_
    refine lv_lmul hx hb dX2_doAct_143 ?_
    refine lv_topl (fun x38 ex38 => ?_)
    have ex38n : x38 = 31 * ta := ex38.trans (rfl)
    clear ex38
    subst ex38n
    refine lv_aload_n hx hb dX2_doAct_144 rfl (lv_at hl 1 rfl) ?_
    refine wr_get (ci := 3) (C := RX2) (T := TX2) (N := 13) hx hb hts iRX2 hown hw 0 (by omega) dt1 rfl 2 (by decide) (hts (.fieldLink RX2 23 "LibraryDesk" "trial" "LLibraryDesk$Holdings;") (by decide +kernel)) (fun _ h9 => h9) rfl dX2_doAct_145 ?_
    refine wr_get (ci := 1) (C := RX0) (T := TX0) (N := 5) hx hb hts iRX0 hown hw tb (by omega) z0t1 rfl 2 (by decide) (hts (.fieldLink RX2 120 "LibraryDesk$Holdings" "tallies" "[J") (by decide +kernel)) (fun _ h9 => h9) rfl dX2_doAct_148 ?_
    refine lv_iload hx hb dX2_doAct_151 (lv_at hl 0 rfl) ?_
    refine wr_lald (v := aTl Z k) hx hb hw (tb + 3) (by omega) 1 z3t1 rfl (vp_in_nI (by omega) (by decide)) (by rw [(nI_clamp (by omega))]; exact (hZt1.1 k hk).2.1) dX2_doAct_153 ?_
    refine lv_ladd hx hb dX2_doAct_154 ?_
    refine lv_topl (fun x39 ex39 => ?_)
    have ex39n : x39 = 31 * ta + aTl Z k := ex39.trans (rfl)
    clear ex39
    subst ex39n
    refine wr_put (ci := 3) (v := .long (31 * ta + aTl Z k)) (ty := .long) (C := RX2) (T := TX2) (N := 13) hx hb hts iRX2 tyX2 tyX2_ok nmX2 hown hw 0 (by omega) dt1 rfl 3 (by decide) (hts (.fieldLink RX2 94 "LibraryDesk" "trialAnswer" "J") (by decide +kernel)) (fun _ h9 => h9) rfl (by decide +kernel) rfl rfl (Nat.le_of_ble_eq_true rfl) dX2_doAct_155 (fun en41 H locs hE40 hw => ?_)
    have he42 : en41 0 = .inr (3, [.ref (ad 1), .ref (ad nb), .ref (ad tb), .long (31 * ta + aTl Z k), .int tw, .int tp, .int (cs 0), .int (cs 1), .int (cs 2), .int (cs 3), .int (cs 4), .int (cs 5), .int (cs 6)]) := w_self hE40
    have he43 : en41 1 = .inl (q.2.2.2, 10, .inr (.inr (.inr (.inr gt1)))) := w_ne hE40 (by omega) et1
    have he44 : en41 nb = .inr (1, [.ref (ad (nb + 1)), .ref (ad (nb + 2)), .ref (ad (nb + 3)), .ref (ad (nb + 4)), .int (nI (aCn A))]) := w_ne hE40 (by omega) n0t1
    have he45 : en41 (nb + 1) = .inl (q.1, 8, .inl mft1) := w_ne hE40 (by omega) n1t1
    have he46 : en41 (nb + 2) = .inl (q.2.1, 8, .inr (.inl vht1)) := w_ne hE40 (by omega) n2t1
    have he47 : en41 (nb + 3) = .inl (q.2.1, 8, .inr (.inl tft1)) := w_ne hE40 (by omega) n3t1
    have he48 : en41 (nb + 4) = .inl (q.2.1, 20, .inr (.inl vft1)) := w_ne hE40 (by omega) n4t1
    have he49 : en41 tb = .inr (1, [.ref (ad (tb + 1)), .ref (ad (tb + 2)), .ref (ad (tb + 3)), .ref (ad (tb + 4)), .int (nI (aCn Z))]) := w_ne hE40 (by omega) z0t1
    have he50 : en41 (tb + 1) = .inl (q.1, 8, .inl mzt1) := w_ne hE40 (by omega) z1t1
    have he51 : en41 (tb + 2) = .inl (q.2.1, 8, .inr (.inl vzt1)) := w_ne hE40 (by omega) z2t1
    have he52 : en41 (tb + 3) = .inl (q.2.1, 8, .inr (.inl tzt1)) := w_ne hE40 (by omega) z3t1
    have he53 : en41 (tb + 4) = .inl (q.2.1, 20, .inr (.inl wzt1)) := w_ne hE40 (by omega) z4t1
    have he54 : en41 (2 + 3 * c1) = .inr (2, [.int ((pl c1).1), .int (nI (pl c1).2.1), .ref (ad (2 + 3 * c1 + 1)), .ref (ad (2 + 3 * c1 + 2)), .int ((pl c1).2.2.2.2.1), .int ((pl c1).2.2.2.2.2)]) := w_ne hE40 (by omega) p0u2
    have he55 : en41 (2 + 3 * c1 + 1) = .inl (q.1, 6, .inl sfu2) := w_ne hE40 (by omega) p1u2
    have he56 : en41 (2 + 3 * c1 + 2) = .inl (q.1, 6, .inl kfu2) := w_ne hE40 (by omega) p2u2
    refine lv_iconst (v := 0) hx hb dX2_doAct_158 (by decide) ?_
    refine we_i hx hb hr hlocks hw ?_ dX2_doAct_159
    have hA := aDo_4 (z := z) (a := a) (A := Z) (x := ta) ess ekk hk
    rw [hA]
    exact ⟨rfl, DeskC_obj hC ⟨rfl, rfl⟩ he42 (fun j hj => w_fr hE40 (by omega)), fun j hj => w_fr hE40 (by omega)⟩
  · refine lv_tableIn (off := 146) (tgt := 160) hx hb dX2_doAct_14 (by decide) (by decide) (by decide) (by decide) ?_
    refine lv_aload_n hx hb dX2_doAct_160 rfl (lv_at hl 1 rfl) ?_
    refine lv_ldc2 (v := 31) hx hb hown (hts (.constantLong RX2 163 (31)) (by decide +kernel)) dX2_doAct_161 ?_
    refine lv_aload_n hx hb dX2_doAct_164 rfl (lv_at hl 1 rfl) ?_
    refine wr_get (ci := 3) (C := RX2) (T := TX2) (N := 13) hx hb hts iRX2 hown hw 0 (by omega) dt1 rfl 3 (by decide) (hts (.fieldLink RX2 94 "LibraryDesk" "trialAnswer" "J") (by decide +kernel)) (fun _ h9 => h9) rfl dX2_doAct_165 ?_
    refine lv_lmul hx hb dX2_doAct_168 ?_
    refine lv_topl (fun x57 ex57 => ?_)
    have ex57n : x57 = 31 * ta := ex57.trans (rfl)
    clear ex57
    subst ex57n
    refine lv_aload_n hx hb dX2_doAct_169 rfl (lv_at hl 1 rfl) ?_
    refine wr_get (ci := 3) (C := RX2) (T := TX2) (N := 13) hx hb hts iRX2 hown hw 0 (by omega) dt1 rfl 2 (by decide) (hts (.fieldLink RX2 23 "LibraryDesk" "trial" "LLibraryDesk$Holdings;") (by decide +kernel)) (fun _ h9 => h9) rfl dX2_doAct_170 ?_
    refine lv_iload hx hb dX2_doAct_173 (lv_at hl 0 rfl) ?_
    refine wc_i hw (va_runV (As := [.int (nI k)]) (rest := [.long (31 * ta), .ref (ad 0)]) ⟨hx, hb, hml, hown, hts⟩ (kX0_countHere l dC dI q ad en n _ tb (by omega) Z hokZ hTt1 k hk) (cwV 1 hts gX2_doAct_X0_countHere rfl rfl rfl (by decide +kernel) ⟨Nat.le_of_ble_eq_true rfl, Nat.le_of_ble_eq_true rfl⟩) (wk_preV hw (by omega) z0t1 rfl) rfl rfl hl.1 rfl (lv_room (Nat.le_of_ble_eq_true rfl)) dX2_doAct_175 ⟨Nat.le_refl _, Nat.le_refl _⟩) (fun r58 en60 H locs hp59 hw => ?_)
    obtain ⟨hr61, hn62⟩ := hp59
    rw [hn62] at hw
    clear hn62
    have hr1 := hr61
    refine lv_i2l hx hb dX2_doAct_178 rfl ?_
    refine lv_topl (fun x63 ex63 => ?_)
    have ex63n : x63 = (nI (cn (aHr Z k) 40)).toInt64 := ex63.trans (by rw [hr1])
    clear ex63
    subst ex63n
    refine lv_ladd hx hb dX2_doAct_179 ?_
    refine lv_topl (fun x64 ex64 => ?_)
    have ex64n : x64 = 31 * ta + (nI (cn (aHr Z k) 40)).toInt64 := ex64.trans (rfl)
    clear ex64
    subst ex64n
    refine wr_put (ci := 3) (v := .long (31 * ta + (nI (cn (aHr Z k) 40)).toInt64)) (ty := .long) (C := RX2) (T := TX2) (N := 13) hx hb hts iRX2 tyX2 tyX2_ok nmX2 hown hw 0 (by omega) dt1 rfl 3 (by decide) (hts (.fieldLink RX2 94 "LibraryDesk" "trialAnswer" "J") (by decide +kernel)) (fun _ h9 => h9) rfl (by decide +kernel) rfl rfl (Nat.le_of_ble_eq_true rfl) dX2_doAct_180 (fun en66 H locs hE65 hw => ?_)
    have he67 : en66 0 = .inr (3, [.ref (ad 1), .ref (ad nb), .ref (ad tb), .long (31 * ta + (nI (cn (aHr Z k) 40)).toInt64), .int tw, .int tp, .int (cs 0), .int (cs 1), .int (cs 2), .int (cs 3), .int (cs 4), .int (cs 5), .int (cs 6)]) := w_self hE65
    have he68 : en66 1 = .inl (q.2.2.2, 10, .inr (.inr (.inr (.inr gt1)))) := w_ne hE65 (by omega) et1
    have he69 : en66 nb = .inr (1, [.ref (ad (nb + 1)), .ref (ad (nb + 2)), .ref (ad (nb + 3)), .ref (ad (nb + 4)), .int (nI (aCn A))]) := w_ne hE65 (by omega) n0t1
    have he70 : en66 (nb + 1) = .inl (q.1, 8, .inl mft1) := w_ne hE65 (by omega) n1t1
    have he71 : en66 (nb + 2) = .inl (q.2.1, 8, .inr (.inl vht1)) := w_ne hE65 (by omega) n2t1
    have he72 : en66 (nb + 3) = .inl (q.2.1, 8, .inr (.inl tft1)) := w_ne hE65 (by omega) n3t1
    have he73 : en66 (nb + 4) = .inl (q.2.1, 20, .inr (.inl vft1)) := w_ne hE65 (by omega) n4t1
    have he74 : en66 tb = .inr (1, [.ref (ad (tb + 1)), .ref (ad (tb + 2)), .ref (ad (tb + 3)), .ref (ad (tb + 4)), .int (nI (aCn Z))]) := w_ne hE65 (by omega) z0t1
    have he75 : en66 (tb + 1) = .inl (q.1, 8, .inl mzt1) := w_ne hE65 (by omega) z1t1
    have he76 : en66 (tb + 2) = .inl (q.2.1, 8, .inr (.inl vzt1)) := w_ne hE65 (by omega) z2t1
    have he77 : en66 (tb + 3) = .inl (q.2.1, 8, .inr (.inl tzt1)) := w_ne hE65 (by omega) z3t1
    have he78 : en66 (tb + 4) = .inl (q.2.1, 20, .inr (.inl wzt1)) := w_ne hE65 (by omega) z4t1
    have he79 : en66 (2 + 3 * c1) = .inr (2, [.int ((pl c1).1), .int (nI (pl c1).2.1), .ref (ad (2 + 3 * c1 + 1)), .ref (ad (2 + 3 * c1 + 2)), .int ((pl c1).2.2.2.2.1), .int ((pl c1).2.2.2.2.2)]) := w_ne hE65 (by omega) p0u2
    have he80 : en66 (2 + 3 * c1 + 1) = .inl (q.1, 6, .inl sfu2) := w_ne hE65 (by omega) p1u2
    have he81 : en66 (2 + 3 * c1 + 2) = .inl (q.1, 6, .inl kfu2) := w_ne hE65 (by omega) p2u2
    refine lv_iconst (v := 0) hx hb dX2_doAct_183 (by decide) ?_
    refine we_i hx hb hr hlocks hw ?_ dX2_doAct_184
    have hA := aDo_5 (z := z) (a := a) (A := Z) (x := ta) ess ekk hk
    rw [hA]
    exact ⟨rfl, DeskC_obj hC ⟨rfl, rfl⟩ he67 (fun j hj => w_fr hE65 (by omega)), fun j hj => w_fr hE65 (by omega)⟩
  · refine lv_tableOut (tgt := 185) hx hb dX2_doAct_14 (Or.inr (by decide)) (by decide) ?_
    refine lv_aload_n hx hb dX2_doAct_185 rfl (lv_at hl 1 rfl) ?_
    refine wr_get (ci := 3) (C := RX2) (T := TX2) (N := 13) hx hb hts iRX2 hown hw 0 (by omega) dt1 rfl 2 (by decide) (hts (.fieldLink RX2 23 "LibraryDesk" "trial" "LLibraryDesk$Holdings;") (by decide +kernel)) (fun _ h9 => h9) rfl dX2_doAct_186 ?_
    refine lv_aload_n hx hb dX2_doAct_189 rfl (lv_at hl 2 rfl) ?_
    refine wr_get (ci := 2) (C := RX1) (T := TX1) (N := 6) hx hb hts iRX1 hown hw (2 + 3 * c1) (by omega) p0u2 rfl 0 (by decide) (hts (.fieldLink RX2 41 "LibraryDesk$Plan" "wanted" "I") (by decide +kernel)) (fun _ h9 => h9) rfl dX2_doAct_190 ?_
    refine lv_iload_n hx hb dX2_doAct_193 rfl (lv_at hl 4 rfl) ?_
    refine wc_i hw (va_runV (As := [.int ((pl c1).1), .int z]) (rest := []) ⟨hx, hb, hml, hown, hts⟩ (kX0_dropNumber l dC dI q ad en n _ tb (by omega) Z hokZ hTt1 ((pl c1).1) z) (cwV 2 hts gX2_doAct_X0_dropNumber rfl rfl rfl (by decide +kernel) ⟨Nat.le_of_ble_eq_true rfl, Nat.le_of_ble_eq_true rfl⟩) (wk_preV hw (by omega) z0t1 rfl) rfl rfl hl.1 rfl (lv_room (Nat.le_of_ble_eq_true rfl)) dX2_doAct_194 ⟨Nat.le_refl _, Nat.le_refl _⟩) (fun r82 en84 H locs hp83 hw => ?_)
    obtain ⟨hr1, hH1, hfr1⟩ := hp83
    have hC1 := DeskC_trial hC hH1 hfr1
    obtain ⟨-, dt85, ⟨gt85, et85, hgt85⟩, hpt85, hNt85, hTt85⟩ := id hC1
    obtain ⟨mft85, vht85, tft85, vft85, n0t85, n1t85, n2t85, n3t85, n4t85, hRt85⟩ := id hNt85
    obtain ⟨mzt85, vzt85, tzt85, wzt85, z0t85, z1t85, z2t85, z3t85, z4t85, hZt85⟩ := id hTt85
    refine lv_if_eq (tgt := 204) hx hb dX2_doAct_197 (by decide) (fun c197 => ?_) (fun c197 => ?_)
    · refine lv_bipush (v := 7) hx hb dX2_doAct_204 (by decide) ?_
      refine we_i hx hb hr hlocks hw ?_ dX2_doAct_206
      have hA := aDo_6 (z := z) (a := a) (A := Z) (x := ta) (k := k) ess
      rw [hA]
      exact ⟨by rw [if_neg (z01_f hr1 c197)], hC1, fun j hj => hfr1 j (by omega)⟩
    · refine lv_iconst (v := 0) hx hb dX2_doAct_200 (by decide) ?_
      refine lv_goto (tgt := 206) hx hb dX2_doAct_201 (by decide) ?_
      refine we_i hx hb hr hlocks hw ?_ dX2_doAct_206
      have hA := aDo_6 (z := z) (a := a) (A := Z) (x := ta) (k := k) ess
      rw [hA]
      exact ⟨by rw [if_pos (z01_t hr1 c197)], hC1, fun j hj => hfr1 j (by omega)⟩
