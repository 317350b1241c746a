theorem makes_m1 {r : Int32} {m : Nat} (hm : m ≤ 40) (hr : r = (if m < 40 then nI (m + 1) else -1)) : r = -1 ↔ ¬ m < 40 := by
  by_cases h : m < 40
  · rw [if_pos h] at hr
    refine ⟨fun e => ?_, fun e => absurd h e⟩
    rw [hr] at e
    have e2 := congrArg Int32.toInt e
    rw [nI_toInt (by omega)] at e2
    have e3 : (-1 : Int32).toInt = -1 := by decide
    rw [e3] at e2
    omega
  · rw [if_neg h] at hr
    exact ⟨fun _ => h, fun _ => hr⟩
theorem drop_gr2 {k : Nat} {A : Ast} {r : Int32} (hk : k < 8) (hr : r = nI (gr (aHr A k) 40)) : (aIs (nI k) r A = true ↔ ¬ gr (aHr A k) 40 = 0) ∧ (¬ gr (aHr A k) 40 = 0 → aDropI (nI k) r A = aDrop k (gr (aHr A k) 40) A) := by
  have hle := gr_le (aHr A k) 40
  by_cases h : gr (aHr A k) 40 = 0
  · refine ⟨⟨fun w => ?_, fun w => absurd h w⟩, fun w => absurd h w⟩
    rw [hr, h, aIs_z (by decide)] at w
    cases w
  · have hi := gr_is (aHr A k) 40 (by omega)
    have e : aIs (nI k) r A = true := by rw [hr, aIs_nI hk (by omega) hle]; exact hi
    exact ⟨⟨fun _ => h, fun _ => e⟩, fun _ => by rw [hr]; exact aDropI_nI hk (by omega) hle hi⟩
set_option maxHeartbeats 4000000 in
set_option maxRecDepth 100000 in
theorem kX3_does (l : Launch) (dC : Nat → ClassId) (dI : Nat → Nat → Nat) (q : ClassId × ClassId × ClassId × ClassId) (ad : Nat → Nat) (en : Nat → va_E) (n sz : Nat) (hn58 : 58 ≤ n) (th : Int32) (A O : Ast) (pl : Nat → Pst) (cs : Nat → Int32) (an : Int64) (wy pla : Int32) (hok : Aok A) (hM : ModC q ad en th A O pl cs an wy pla) (c1 : Nat) (hc : c1 < 10) (hpk : Pok (pl c1)) (i : Nat) (hi : i < (pl c1).2.1) (z : Int32) (a : Int64) :
    Met l yX3_does wsX3_does ({ frames := 3, cells := 0, slots := 0, locals := 64 }) (wPc (dC, dI) vwCl (wT q) ad en n sz [.ref (ad 42), .int (nI c1), .int (nI i), .int z, .long a]) (va_Qi (fun (r : Int32) (en' : Nat → va_E) => r = (aDo (pl c1) i z a A an).1 ∧ ModC q ad en' th (aDo (pl c1) i z a A an).2.1 O pl cs (aDo (pl c1) i z a A an).2.2 wy pla ∧ ∀ j, (j < 42 ∨ 58 ≤ j) → en' j = en j) (wB (dC, dI) vwCl (wT q) ad n (wA ad n sz)) (wA ad n sz)) 0 0 (wA ad n sz) := by
  refine Met.ofW (cc := cX3_does) (maxL := 7) (ret := (some .int)) (by decide) rfl ?_
  intro p e s m args below meth c s₁ B hml hv
  obtain ⟨rfl, hsz, hP, hK, hD0, hE0⟩ := hv
  have hx := B.exec
  have hb := B.bytes
  have hr := B.returns
  have hts := atoms_spec (ws := wsX3_does) B.pre
  have hown : s.vm.findClass RX3 = some m.cls := findClass_of_methodNamed B.named
  have hlocks := B.notSynchronized
  have iRX3 : ∀ w ∈ u_ws RX3 TX3 21, w ∈ wsX3_does := by decide +kernel
  subst hsz
  have hw := wk_of hP hK hD0 hE0
  generalize wA ad n s.heap.size = AA at hw ⊢
  have hl := lv_entry ([.ref (ad 42), .int (nI c1), .int (nI i), .int z, .long a]) (n := 7) (Nat.le_of_ble_eq_true rfl)
  rw [lg_entry_eq]
  generalize (lg_sl ([.ref (ad 42), .int (nI c1), .int (nI i), .int z, .long a]) ++ List.replicate (7 - (lg_sl ([.ref (ad 42), .int (nI c1), .int (nI i), .int z, .long a])).length) Slot.unset).toArray = ls at hl ⊢
  have hl : lv_has ls 7 [(0, .ref (ad 42)), (1, .int (nI c1)), (2, .int (nI i)), (3, .int z), (4, .long a)] := hl
  obtain ⟨ot1, ⟨hFt1, mFt1, tFt1, rFt1, a1t1, a2t1, a3t1, a4t1, hRt1⟩, ⟨oht1, omt1, ott1, orrt1, b1t1, b2t1, b3t1, b4t1, hOt1⟩, ⟨wFt1, sFt1, kFt1, aFt1, fFt1, xFt1, c1t1, c2t1, c3t1, c4t1, c5t1, c6t1, hPlt1⟩, ⟨gFt1, e1t1, hTt1⟩⟩ := id hM
  have hcn := hok.2
  obtain ⟨k, hk, ekk⟩ := okK_of (hpk.2.1 i hi).2
  obtain ⟨s7, hs7, ess⟩ : ∃ s7, s7 < 7 ∧ (pl c1).2.2.1 i = nI s7 := (kd_cases _ (by decide)).resolve_right (fun h => h ⟨(hpk.2.1 i hi).1.1, Int32.lt_of_le_of_lt (hpk.2.1 i hi).1.2 (by decide)⟩)
  have hi6 : i < 6 := Nat.lt_of_lt_of_le hi hpk.1
  have hm40 := (hok.1 k hk).1
  refine lv_aload_n hx hb dX3_does_0 rfl (lv_at hl 0 rfl) ?_
  refine wr_get (ci := 4) (C := RX3) (T := TX3) (N := 21) hx hb hts iRX3 hown hw 42 (by omega) ot1 rfl 13 (by decide) (hts (.fieldLink RX3 42 "LibraryDeskModel" "kinds" "[I") (by decide +kernel)) (fun _ h9 => h9) rfl dX3_does_1 ?_
  refine lv_bipush (v := 6) hx hb dX3_does_4 (by decide) ?_
  refine lv_iload_n hx hb dX3_does_6 rfl (lv_at hl 1 rfl) ?_
  refine lv_imul hx hb dX3_does_7 ?_
  refine lv_topi (fun x2 ex2 => ?_)
  have ex2n : x2 = nI (6 * c1) := ex2.trans (pk_mul 6 c1)
  clear ex2
  subst ex2n
  refine lv_iload_n hx hb dX3_does_8 rfl (lv_at hl 2 rfl) ?_
  refine lv_iadd hx hb dX3_does_9 ?_
  refine lv_topi (fun x3 ex3 => ?_)
  have ex3n : x3 = nI (6 * c1 + i) := ex3.trans (nI_add _ _)
  clear ex3
  subst ex3n
  refine wr_iald (v := nI k) hx hb hw 53 (by omega) 0 c3t1 rfl (vp_in_nI (by omega) (by decide)) (by rw [(nI_clamp (by omega))]; exact ((hPlt1 c1 hc).2.2.2.2 i hi).2.trans ekk) dX3_does_10 ?_
  refine lv_istore (lv' := [(6, .int (nI k)), (0, .ref (ad 42)), (1, .int (nI c1)), (2, .int (nI i)), (3, .int z), (4, .long a)]) hx hb dX3_does_11 hl (by decide) rfl (fun ls hl => ?_)
  refine lv_aload_n hx hb dX3_does_13 rfl (lv_at hl 1 rfl) ?_
  refine wr_get (ci := 4) (C := RX3) (T := TX3) (N := 21) hx hb hts iRX3 hown hw 42 (by omega) ot1 rfl 12 (by decide) (hts (.fieldLink RX3 39 "LibraryDeskModel" "sorts" "[I") (by decide +kernel)) (fun _ h9 => h9) rfl dX3_does_14 ?_
  refine lv_bipush (v := 6) hx hb dX3_does_17 (by decide) ?_
  refine lv_iload_n hx hb dX3_does_19 rfl (lv_at hl 2 rfl) ?_
  refine lv_imul hx hb dX3_does_20 ?_
  refine lv_topi (fun x4 ex4 => ?_)
  have ex4n : x4 = nI (6 * c1) := ex4.trans (pk_mul 6 c1)
  clear ex4
  subst ex4n
  refine lv_iload_n hx hb dX3_does_21 rfl (lv_at hl 3 rfl) ?_
  refine lv_iadd hx hb dX3_does_22 ?_
  refine lv_topi (fun x5 ex5 => ?_)
  have ex5n : x5 = nI (6 * c1 + i) := ex5.trans (nI_add _ _)
  clear ex5
  subst ex5n
  refine wr_iald (v := nI s7) hx hb hw 52 (by omega) 0 c2t1 rfl (vp_in_nI (by omega) (by decide)) (by rw [(nI_clamp (by omega))]; exact ((hPlt1 c1 hc).2.2.2.2 i hi).1.trans ess) dX3_does_23 ?_
  rcases (show s7 = 0 ∨ s7 = 1 ∨ s7 = 2 ∨ s7 = 3 ∨ s7 = 4 ∨ s7 = 5 ∨ s7 = 6 by omega) with rfl | rfl | rfl | rfl | rfl | rfl | rfl
  · refine lv_tableIn (off := 40) (tgt := 64) hx hb dX3_does_24 (by decide) (by decide) (by decide) (by decide) ?_
    refine lv_aload_n hx hb dX3_does_64 rfl (lv_at hl 1 rfl) ?_
    refine lv_iload hx hb dX3_does_65 (lv_at hl 0 rfl) ?_
    refine wc_i hw (va_runV (As := [.int (nI k)]) (rest := []) ⟨hx, hb, hml, hown, hts⟩ (kX3_makes l dC dI q ad en n _ hn58 th A O pl cs an wy pla hok hM k hk) (cwV 1 hts gX3_does_X3_makes rfl rfl rfl (by decide +kernel) ⟨Nat.le_of_ble_eq_true rfl, Nat.le_of_ble_eq_true rfl⟩) (wk_preV hw (by omega) ot1 rfl) rfl rfl hl.1 rfl (lv_room (Nat.le_of_ble_eq_true rfl)) dX3_does_67 ⟨Nat.le_refl _, Nat.le_refl _⟩) (fun r6 en8 H locs hp7 hw => ?_)
    obtain ⟨hr1, hM1, hfr1⟩ := hp7
    obtain ⟨ot9, ⟨hFt9, mFt9, tFt9, rFt9, a1t9, a2t9, a3t9, a4t9, hRt9⟩, ⟨oht9, omt9, ott9, orrt9, b1t9, b2t9, b3t9, b4t9, hOt9⟩, ⟨wFt9, sFt9, kFt9, aFt9, fFt9, xFt9, c1t9, c2t9, c3t9, c4t9, c5t9, c6t9, hPlt9⟩, ⟨gFt9, e1t9, hTt9⟩⟩ := id hM1
    refine lv_iconst (v := (-1)) hx hb dX3_does_70 (by decide) ?_
    refine lv_icmp_ne (tgt := 79) hx hb dX3_does_71 (by decide) (fun c71 => ?_) (fun c71 => ?_)
    · refine lv_iconst (v := 0) hx hb dX3_does_79 (by decide) ?_
      refine we_i hx hb hr hlocks hw ?_ dX3_does_80
      have hA := aDo_0 (z := z) (a := a) (A := A) (x := an) ess ekk hk
      rw [hA]
      exact ⟨by rw [if_pos (Decidable.of_not_not (fun h => c71 ((makes_m1 hm40 hr1).mpr h)))], hM1, fun j hj => hfr1 j hj⟩
    · refine lv_bipush (v := 6) hx hb dX3_does_74 (by decide) ?_
      refine lv_goto (tgt := 80) hx hb dX3_does_76 (by decide) ?_
      refine we_i hx hb hr hlocks hw ?_ dX3_does_80
      have hA := aDo_0 (z := z) (a := a) (A := A) (x := an) ess ekk hk
      rw [hA]
      exact ⟨by rw [if_neg ((makes_m1 hm40 hr1).mp c71)], hM1, fun j hj => hfr1 j hj⟩
  · refine lv_tableIn (off := 57) (tgt := 81) hx hb dX3_does_24 (by decide) (by decide) (by decide) (by decide) ?_
    refine lv_aload_n hx hb dX3_does_81 rfl (lv_at hl 1 rfl) ?_
    refine lv_iload hx hb dX3_does_82 (lv_at hl 0 rfl) ?_
    refine lv_aload_n hx hb dX3_does_84 rfl (lv_at hl 1 rfl) ?_
    refine lv_iload hx hb dX3_does_85 (lv_at hl 0 rfl) ?_
    refine wc_i hw (va_runV (As := [.int (nI k)]) (rest := [.int (nI k), .ref (ad 42)]) ⟨hx, hb, hml, hown, hts⟩ (kX3_greatest l dC dI q ad en n _ hn58 th A O pl cs an wy pla hok hM k hk) (cwV 1 hts gX3_does_X3_greatest rfl rfl rfl (by decide +kernel) ⟨Nat.le_of_ble_eq_true rfl, Nat.le_of_ble_eq_true rfl⟩) (wk_preV hw (by omega) ot1 rfl) rfl rfl hl.1 rfl (lv_room (Nat.le_of_ble_eq_true rfl)) dX3_does_87 ⟨Nat.le_refl _, Nat.le_refl _⟩) (fun r10 en12 H locs hp11 hw => ?_)
    obtain ⟨hr13, hn14⟩ := hp11
    rw [hn14] at hw
    clear hn14
    have hgr := hr13
    refine wc_i hw (va_runV (As := [.int (nI k), .int r10]) (rest := []) ⟨hx, hb, hml, hown, hts⟩ (kX3_drops l dC dI q ad en n _ hn58 th A O pl cs an wy pla hok hM (nI k) r10) (cwV 2 hts gX3_does_X3_drops rfl rfl rfl (by decide +kernel) ⟨Nat.le_of_ble_eq_true rfl, Nat.le_of_ble_eq_true rfl⟩) (wk_preV hw (by omega) ot1 rfl) rfl rfl hl.1 rfl (lv_room (Nat.le_of_ble_eq_true rfl)) dX3_does_90 ⟨Nat.le_refl _, Nat.le_refl _⟩) (fun r15 en17 H locs hp16 hw => ?_)
    obtain ⟨hr1, hM1, hfr1⟩ := hp16
    obtain ⟨ot18, ⟨hFt18, mFt18, tFt18, rFt18, a1t18, a2t18, a3t18, a4t18, hRt18⟩, ⟨oht18, omt18, ott18, orrt18, b1t18, b2t18, b3t18, b4t18, hOt18⟩, ⟨wFt18, sFt18, kFt18, aFt18, fFt18, xFt18, c1t18, c2t18, c3t18, c4t18, c5t18, c6t18, hPlt18⟩, ⟨gFt18, e1t18, hTt18⟩⟩ := id hM1
    refine lv_if_eq (tgt := 100) hx hb dX3_does_93 (by decide) (fun c93 => ?_) (fun c93 => ?_)
    · refine lv_bipush (v := 7) hx hb dX3_does_100 (by decide) ?_
      refine we_i hx hb hr hlocks hw ?_ dX3_does_102
      have hA := aDo_1 (z := z) (a := a) (A := A) (x := an) ess ekk hk
      have hG := drop_gr2 hk hgr
      have hg0 : gr (aHr A k) 40 = 0 := Decidable.of_not_not (fun h => z01_f hr1 c93 (hG.1.mpr h))
      rw [hA, if_pos hg0]
      rw [aDropI_no (z01_f hr1 c93)] at hM1
      exact ⟨rfl, hM1, fun j hj => hfr1 j hj⟩
    · refine lv_iconst (v := 0) hx hb dX3_does_96 (by decide) ?_
      refine lv_goto (tgt := 102) hx hb dX3_does_97 (by decide) ?_
      refine we_i hx hb hr hlocks hw ?_ dX3_does_102
      have hA := aDo_1 (z := z) (a := a) (A := A) (x := an) ess ekk hk
      have hG := drop_gr2 hk hgr
      have hg0 := hG.1.mp (z01_t hr1 c93)
      rw [hA, if_neg hg0]
      rw [(hG.2 hg0)] at hM1
      exact ⟨rfl, hM1, fun j hj => hfr1 j hj⟩
  · refine lv_tableIn (off := 79) (tgt := 103) hx hb dX3_does_24 (by decide) (by decide) (by decide) (by decide) ?_
    refine lv_aload_n hx hb dX3_does_103 rfl (lv_at hl 1 rfl) ?_
    refine wr_get (ci := 4) (C := RX3) (T := TX3) (N := 21) hx hb hts iRX3 hown hw 42 (by omega) ot1 rfl 3 (by decide) (hts (.fieldLink RX3 17 "LibraryDeskModel" "tallies" "[J") (by decide +kernel)) (fun _ h9 => h9) rfl dX3_does_104 ?_
    refine lv_iload hx hb dX3_does_107 (lv_at hl 0 rfl) ?_
    refine lv_dup2_11 hx hb dX3_does_109 rfl rfl ?_
    refine wr_lald (v := tFt1 k) hx hb hw 45 (by omega) 1 a3t1 rfl (vp_in_nI (by omega) (by decide)) (by rw [(nI_clamp (by omega))]) dX3_does_110 ?_
    refine lv_lload hx hb dX3_does_111 (lv_at hl 5 rfl) ?_
    refine lv_ladd hx hb dX3_does_113 ?_
    refine lv_topl (fun x19 ex19 => ?_)
    have ex19n : x19 = tFt1 k + a := ex19.trans (rfl)
    clear ex19
    subst ex19n
    refine wr_last (j := k) hx hb hw 45 (by omega) 1 a3t1 rfl (vp_in_nI (by omega) (by decide)) (nI_clamp (by omega)) dX3_does_114 (fun en21 H locs hE20 hw => ?_)
    have he22 : en21 42 = .inr (4, [.int th, .ref (ad 43), .ref (ad 44), .ref (ad 45), .ref (ad 46), .int (nI (aCn A)), .ref (ad 47), .ref (ad 48), .ref (ad 49), .ref (ad 50), .int (nI (aCn O)), .ref (ad 51), .ref (ad 52), .ref (ad 53), .ref (ad 54), .ref (ad 55), .ref (ad 56), .ref (ad 57), .long an, .int wy, .int pla]) := w_ne hE20 (by omega) ot1
    have he23 : en21 43 = .inl (q.2.2.1, 328, .inl hFt1) := w_ne hE20 (by omega) a1t1
    have he24 : en21 44 = .inl (q.1, 8, .inl mFt1) := w_ne hE20 (by omega) a2t1
    have he25 : en21 45 = .inl (q.2.1, 8, .inr (.inl (vp_updL tFt1 k (tFt1 k + a)))) := w_self hE20
    have he26 : en21 46 = .inl (q.2.1, 20, .inr (.inl rFt1)) := w_ne hE20 (by omega) a4t1
    have he27 : en21 47 = .inl (q.2.2.1, 328, .inl oht1) := w_ne hE20 (by omega) b1t1
    have he28 : en21 48 = .inl (q.1, 8, .inl omt1) := w_ne hE20 (by omega) b2t1
    have he29 : en21 49 = .inl (q.2.1, 8, .inr (.inl ott1)) := w_ne hE20 (by omega) b3t1
    have he30 : en21 50 = .inl (q.2.1, 20, .inr (.inl orrt1)) := w_ne hE20 (by omega) b4t1
    have he31 : en21 51 = .inl (q.1, 10, .inl wFt1) := w_ne hE20 (by omega) c1t1
    have he32 : en21 52 = .inl (q.1, 60, .inl sFt1) := w_ne hE20 (by omega) c2t1
    have he33 : en21 53 = .inl (q.1, 60, .inl kFt1) := w_ne hE20 (by omega) c3t1
    have he34 : en21 54 = .inl (q.1, 10, .inl aFt1) := w_ne hE20 (by omega) c4t1
    have he35 : en21 55 = .inl (q.1, 10, .inl fFt1) := w_ne hE20 (by omega) c5t1
    have he36 : en21 56 = .inl (q.1, 10, .inl xFt1) := w_ne hE20 (by omega) c6t1
    have he37 : en21 57 = .inl (q.1, 7, .inl gFt1) := w_ne hE20 (by omega) e1t1
    refine lv_iconst (v := 0) hx hb dX3_does_115 (by decide) ?_
    refine we_i hx hb hr hlocks hw ?_ dX3_does_116
    have hA := aDo_2 (z := z) (a := a) (A := A) (x := an) ess ekk hk
    rw [hA]
    exact ⟨rfl, ⟨he22, ⟨_, _, _, _, he23, he24, he25, he26, RM_grow hRt1 hk a⟩, ⟨_, _, _, _, he27, he28, he29, he30, hOt1⟩, ⟨_, _, _, _, _, _, he31, he32, he33, he34, he35, he36, hPlt1⟩, ⟨_, he37, hTt1⟩⟩, fun j hj => w_fr hE20 (by omega)⟩
  · refine lv_tableIn (off := 93) (tgt := 117) hx hb dX3_does_24 (by decide) (by decide) (by decide) (by decide) ?_
    refine lv_aload_n hx hb dX3_does_117 rfl (lv_at hl 1 rfl) ?_
    refine wr_get (ci := 4) (C := RX3) (T := TX3) (N := 21) hx hb hts iRX3 hown hw 42 (by omega) ot1 rfl 5 (by decide) (hts (.fieldLink RX3 61 "LibraryDeskModel" "size" "I") (by decide +kernel)) (fun _ h9 => h9) rfl dX3_does_118 ?_
    refine lv_if_ne (tgt := 127) hx hb dX3_does_121 (by decide) (fun c121 => ?_) (fun c121 => ?_)
    · have hc0 : 0 < aCn A := Nat.pos_of_ne_zero (fun h => c121 (by rw [h]; rfl))
      refine lv_aload_n hx hb dX3_does_127 rfl (lv_at hl 1 rfl) ?_
      refine lv_iload hx hb dX3_does_128 (lv_at hl 0 rfl) ?_
      refine wc_v hw (va_runV (As := [.int (nI k)]) (rest := []) ⟨hx, hb, hml, hown, hts⟩ (kX3_take l dC dI q ad en n _ hn58 th A O pl cs an wy pla hok hM k hk hc0) (cwV 1 hts gX3_does_X3_take rfl rfl rfl (by decide +kernel) ⟨Nat.le_of_ble_eq_true rfl, Nat.le_of_ble_eq_true rfl⟩) (wk_preV hw (by omega) ot1 rfl) rfl rfl hl.1 rfl (lv_room (Nat.le_of_ble_eq_true rfl)) dX3_does_130 ⟨Nat.le_refl _, Nat.le_refl _⟩) (fun en40 H locs hp39 hw => ?_)
      obtain ⟨hM1, hfr1⟩ := hp39
      obtain ⟨ot41, ⟨hFt41, mFt41, tFt41, rFt41, a1t41, a2t41, a3t41, a4t41, hRt41⟩, ⟨oht41, omt41, ott41, orrt41, b1t41, b2t41, b3t41, b4t41, hOt41⟩, ⟨wFt41, sFt41, kFt41, aFt41, fFt41, xFt41, c1t41, c2t41, c3t41, c4t41, c5t41, c6t41, hPlt41⟩, ⟨gFt41, e1t41, hTt41⟩⟩ := id hM1
      refine lv_iconst (v := 0) hx hb dX3_does_133 (by decide) ?_
      refine we_i hx hb hr hlocks hw ?_ dX3_does_134
      have hA := aDo_3 (z := z) (a := a) (A := A) (x := an) ess ekk hk
      rw [hA]
      exact ⟨by rw [if_pos hc0], hM1, fun j hj => hfr1 j hj⟩
    · have hc0 : ¬ 0 < aCn A := fun h => absurd ((nI_eq (b := 0) (by omega) (by omega)).mp c121) (by omega)
      refine lv_bipush (v := 8) hx hb dX3_does_124 (by decide) ?_
      refine we_i hx hb hr hlocks hw ?_ dX3_does_126
      have hA := aDo_3 (z := z) (a := a) (A := A) (x := an) ess ekk hk
      rw [hA, aTake_no hc0]
      exact ⟨by rw [if_neg hc0], hM, fun j hj => rfl⟩
  · refine lv_tableIn (off := 111) (tgt := 135) hx hb dX3_does_24 (by decide) (by decide) (by decide) (by decide) ?_
    refine lv_aload_n hx hb dX3_does_135 rfl (lv_at hl 1 rfl) ?_
    refine lv_ldc2 (v := 31) hx hb hown (hts (.constantLong RX3 92 (31)) (by decide +kernel)) dX3_does_136 ?_
    refine lv_aload_n hx hb dX3_does_139 rfl (lv_at hl 1 rfl) ?_
    refine wr_get (ci := 4) (C := RX3) (T := TX3) (N := 21) hx hb hts iRX3 hown hw 42 (by omega) ot1 rfl 18 (by decide) (hts (.fieldLink RX3 94 "LibraryDeskModel" "answer" "J") (by decide +kernel)) (fun _ h9 => h9) rfl dX3_does_140 ?_
    refine lv_lmul hx hb dX3_does_143 ?_
    refine lv_topl (fun x42 ex42 => ?_)
    have ex42n : x42 = 31 * an := ex42.trans (rfl)
    clear ex42
    subst ex42n
    refine lv_aload_n hx hb dX3_does_144 rfl (lv_at hl 1 rfl) ?_
    refine wr_get (ci := 4) (C := RX3) (T := TX3) (N := 21) hx hb hts iRX3 hown hw 42 (by omega) ot1 rfl 3 (by decide) (hts (.fieldLink RX3 17 "LibraryDeskModel" "tallies" "[J") (by decide +kernel)) (fun _ h9 => h9) rfl dX3_does_145 ?_
    refine lv_iload hx hb dX3_does_148 (lv_at hl 0 rfl) ?_
    refine wr_lald (v := aTl A k) hx hb hw 45 (by omega) 1 a3t1 rfl (vp_in_nI (by omega) (by decide)) (by rw [(nI_clamp (by omega))]; exact (hRt1.2.1 k hk).2) dX3_does_150 ?_
    refine lv_ladd hx hb dX3_does_151 ?_
    refine lv_topl (fun x43 ex43 => ?_)
    have ex43n : x43 = 31 * an + aTl A k := ex43.trans (rfl)
    clear ex43
    subst ex43n
    refine wr_put (ci := 4) (v := .long (31 * an + aTl A k)) (ty := .long) (C := RX3) (T := TX3) (N := 21) hx hb hts iRX3 tyX3 tyX3_ok nmX3 hown hw 42 (by omega) ot1 rfl 18 (by decide) (hts (.fieldLink RX3 94 "LibraryDeskModel" "answer" "J") (by decide +kernel)) (fun _ h9 => h9) rfl (by decide +kernel) rfl rfl (Nat.le_of_ble_eq_true rfl) dX3_does_152 (fun en45 H locs hE44 hw => ?_)
    have he46 : en45 42 = .inr (4, [.int th, .ref (ad 43), .ref (ad 44), .ref (ad 45), .ref (ad 46), .int (nI (aCn A)), .ref (ad 47), .ref (ad 48), .ref (ad 49), .ref (ad 50), .int (nI (aCn O)), .ref (ad 51), .ref (ad 52), .ref (ad 53), .ref (ad 54), .ref (ad 55), .ref (ad 56), .ref (ad 57), .long (31 * an + aTl A k), .int wy, .int pla]) := w_self hE44
    have he47 : en45 43 = .inl (q.2.2.1, 328, .inl hFt1) := w_ne hE44 (by omega) a1t1
    have he48 : en45 44 = .inl (q.1, 8, .inl mFt1) := w_ne hE44 (by omega) a2t1
    have he49 : en45 45 = .inl (q.2.1, 8, .inr (.inl tFt1)) := w_ne hE44 (by omega) a3t1
    have he50 : en45 46 = .inl (q.2.1, 20, .inr (.inl rFt1)) := w_ne hE44 (by omega) a4t1
    have he51 : en45 47 = .inl (q.2.2.1, 328, .inl oht1) := w_ne hE44 (by omega) b1t1
    have he52 : en45 48 = .inl (q.1, 8, .inl omt1) := w_ne hE44 (by omega) b2t1
    have he53 : en45 49 = .inl (q.2.1, 8, .inr (.inl ott1)) := w_ne hE44 (by omega) b3t1
    have he54 : en45 50 = .inl (q.2.1, 20, .inr (.inl orrt1)) := w_ne hE44 (by omega) b4t1
    have he55 : en45 51 = .inl (q.1, 10, .inl wFt1) := w_ne hE44 (by omega) c1t1
    have he56 : en45 52 = .inl (q.1, 60, .inl sFt1) := w_ne hE44 (by omega) c2t1
    have he57 : en45 53 = .inl (q.1, 60, .inl kFt1) := w_ne hE44 (by omega) c3t1
    have he58 : en45 54 = .inl (q.1, 10, .inl aFt1) := w_ne hE44 (by omega) c4t1
    have he59 : en45 55 = .inl (q.1, 10, .inl fFt1) := w_ne hE44 (by omega) c5t1
    have he60 : en45 56 = .inl (q.1, 10, .inl xFt1) := w_ne hE44 (by omega) c6t1
    have he61 : en45 57 = .inl (q.1, 7, .inl gFt1) := w_ne hE44 (by omega) e1t1
    refine lv_iconst (v := 0) hx hb dX3_does_155 (by decide) ?_
    refine we_i hx hb hr hlocks hw ?_ dX3_does_156
    have hA := aDo_4 (z := z) (a := a) (A := A) (x := an) ess ekk hk
    rw [hA]
    exact ⟨rfl, ⟨he46, ⟨_, _, _, _, he47, he48, he49, he50, hRt1⟩, ⟨_, _, _, _, he51, he52, he53, he54, hOt1⟩, ⟨_, _, _, _, _, _, he55, he56, he57, he58, he59, he60, hPlt1⟩, ⟨_, he61, hTt1⟩⟩, fun j hj => w_fr hE44 (by omega)⟩
  · refine lv_tableIn (off := 133) (tgt := 157) hx hb dX3_does_24 (by decide) (by decide) (by decide) (by decide) ?_
    refine lv_aload_n hx hb dX3_does_157 rfl (lv_at hl 1 rfl) ?_
    refine lv_ldc2 (v := 31) hx hb hown (hts (.constantLong RX3 92 (31)) (by decide +kernel)) dX3_does_158 ?_
    refine lv_aload_n hx hb dX3_does_161 rfl (lv_at hl 1 rfl) ?_
    refine wr_get (ci := 4) (C := RX3) (T := TX3) (N := 21) hx hb hts iRX3 hown hw 42 (by omega) ot1 rfl 18 (by decide) (hts (.fieldLink RX3 94 "LibraryDeskModel" "answer" "J") (by decide +kernel)) (fun _ h9 => h9) rfl dX3_does_162 ?_
    refine lv_lmul hx hb dX3_does_165 ?_
    refine lv_topl (fun x62 ex62 => ?_)
    have ex62n : x62 = 31 * an := ex62.trans (rfl)
    clear ex62
    subst ex62n
    refine lv_aload_n hx hb dX3_does_166 rfl (lv_at hl 1 rfl) ?_
    refine lv_iload hx hb dX3_does_167 (lv_at hl 0 rfl) ?_
    refine wc_i hw (va_runV (As := [.int (nI k)]) (rest := [.long (31 * an), .ref (ad 42)]) ⟨hx, hb, hml, hown, hts⟩ (kX3_many l dC dI q ad en n _ hn58 th A O pl cs an wy pla hok hM k hk) (cwV 1 hts gX3_does_X3_many rfl rfl rfl (by decide +kernel) ⟨Nat.le_of_ble_eq_true rfl, Nat.le_of_ble_eq_true rfl⟩) (wk_preV hw (by omega) ot1 rfl) rfl rfl hl.1 rfl (lv_room (Nat.le_of_ble_eq_true rfl)) dX3_does_169 ⟨Nat.le_refl _, Nat.le_refl _⟩) (fun r63 en65 H locs hp64 hw => ?_)
    obtain ⟨hr66, hn67⟩ := hp64
    rw [hn67] at hw
    clear hn67
    have hr1 := hr66
    refine lv_i2l hx hb dX3_does_172 rfl ?_
    refine lv_topl (fun x68 ex68 => ?_)
    have ex68n : x68 = (nI (cn (aHr A k) 40)).toInt64 := ex68.trans (by rw [hr1])
    clear ex68
    subst ex68n
    refine lv_ladd hx hb dX3_does_173 ?_
    refine lv_topl (fun x69 ex69 => ?_)
    have ex69n : x69 = 31 * an + (nI (cn (aHr A k) 40)).toInt64 := ex69.trans (rfl)
    clear ex69
    subst ex69n
    refine wr_put (ci := 4) (v := .long (31 * an + (nI (cn (aHr A k) 40)).toInt64)) (ty := .long) (C := RX3) (T := TX3) (N := 21) hx hb hts iRX3 tyX3 tyX3_ok nmX3 hown hw 42 (by omega) ot1 rfl 18 (by decide) (hts (.fieldLink RX3 94 "LibraryDeskModel" "answer" "J") (by decide +kernel)) (fun _ h9 => h9) rfl (by decide +kernel) rfl rfl (Nat.le_of_ble_eq_true rfl) dX3_does_174 (fun en71 H locs hE70 hw => ?_)
    have he72 : en71 42 = .inr (4, [.int th, .ref (ad 43), .ref (ad 44), .ref (ad 45), .ref (ad 46), .int (nI (aCn A)), .ref (ad 47), .ref (ad 48), .ref (ad 49), .ref (ad 50), .int (nI (aCn O)), .ref (ad 51), .ref (ad 52), .ref (ad 53), .ref (ad 54), .ref (ad 55), .ref (ad 56), .ref (ad 57), .long (31 * an + (nI (cn (aHr A k) 40)).toInt64), .int wy, .int pla]) := w_self hE70
    have he73 : en71 43 = .inl (q.2.2.1, 328, .inl hFt1) := w_ne hE70 (by omega) a1t1
    have he74 : en71 44 = .inl (q.1, 8, .inl mFt1) := w_ne hE70 (by omega) a2t1
    have he75 : en71 45 = .inl (q.2.1, 8, .inr (.inl tFt1)) := w_ne hE70 (by omega) a3t1
    have he76 : en71 46 = .inl (q.2.1, 20, .inr (.inl rFt1)) := w_ne hE70 (by omega) a4t1
    have he77 : en71 47 = .inl (q.2.2.1, 328, .inl oht1) := w_ne hE70 (by omega) b1t1
    have he78 : en71 48 = .inl (q.1, 8, .inl omt1) := w_ne hE70 (by omega) b2t1
    have he79 : en71 49 = .inl (q.2.1, 8, .inr (.inl ott1)) := w_ne hE70 (by omega) b3t1
    have he80 : en71 50 = .inl (q.2.1, 20, .inr (.inl orrt1)) := w_ne hE70 (by omega) b4t1
    have he81 : en71 51 = .inl (q.1, 10, .inl wFt1) := w_ne hE70 (by omega) c1t1
    have he82 : en71 52 = .inl (q.1, 60, .inl sFt1) := w_ne hE70 (by omega) c2t1
    have he83 : en71 53 = .inl (q.1, 60, .inl kFt1) := w_ne hE70 (by omega) c3t1
    have he84 : en71 54 = .inl (q.1, 10, .inl aFt1) := w_ne hE70 (by omega) c4t1
    have he85 : en71 55 = .inl (q.1, 10, .inl fFt1) := w_ne hE70 (by omega) c5t1
    have he86 : en71 56 = .inl (q.1, 10, .inl xFt1) := w_ne hE70 (by omega) c6t1
    have he87 : en71 57 = .inl (q.1, 7, .inl gFt1) := w_ne hE70 (by omega) e1t1
    refine lv_iconst (v := 0) hx hb dX3_does_177 (by decide) ?_
    refine we_i hx hb hr hlocks hw ?_ dX3_does_178
    have hA := aDo_5 (z := z) (a := a) (A := A) (x := an) ess ekk hk
    rw [hA]
    exact ⟨rfl, ⟨he72, ⟨_, _, _, _, he73, he74, he75, he76, hRt1⟩, ⟨_, _, _, _, he77, he78, he79, he80, hOt1⟩, ⟨_, _, _, _, _, _, he81, he82, he83, he84, he85, he86, hPlt1⟩, ⟨_, he87, hTt1⟩⟩, fun j hj => w_fr hE70 (by omega)⟩
  · refine lv_tableOut (tgt := 179) hx hb dX3_does_24 (Or.inr (by decide)) (by decide) ?_
    refine lv_aload_n hx hb dX3_does_179 rfl (lv_at hl 1 rfl) ?_
    refine wr_get (ci := 4) (C := RX3) (T := TX3) (N := 21) hx hb hts iRX3 hown hw 42 (by omega) ot1 rfl 11 (by decide) (hts (.fieldLink RX3 36 "LibraryDeskModel" "wanted" "[I") (by decide +kernel)) (fun _ h9 => h9) rfl dX3_does_180 ?_
    refine lv_iload_n hx hb dX3_does_183 rfl (lv_at hl 2 rfl) ?_
    refine wr_iald (v := (pl c1).1) hx hb hw 51 (by omega) 0 c1t1 rfl (vp_in_nI (by omega) (by decide)) (by rw [(nI_clamp (by omega))]; exact (hPlt1 c1 hc).1) dX3_does_184 ?_
    refine lv_iconst (v := (-1)) hx hb dX3_does_185 (by decide) ?_
    refine lv_icmp_eq (tgt := 207) hx hb dX3_does_186 (by decide) (fun c186 => ?_) (fun c186 => ?_)
    · refine lv_bipush (v := 7) hx hb dX3_does_207 (by decide) ?_
      refine we_i hx hb hr hlocks hw ?_ dX3_does_209
      have hA := aDo_6 (z := z) (a := a) (A := A) (x := an) (k := k) ess
      have hno : ¬ aIs (pl c1).1 z A = true := by rw [c186, aIs_k (by decide)]; decide
      rw [hA, aDropI_no hno]
      exact ⟨by rw [if_neg hno], hM, fun j hj => rfl⟩
    · refine lv_aload_n hx hb dX3_does_189 rfl (lv_at hl 1 rfl) ?_
      refine lv_aload_n hx hb dX3_does_190 rfl (lv_at hl 1 rfl) ?_
      refine wr_get (ci := 4) (C := RX3) (T := TX3) (N := 21) hx hb hts iRX3 hown hw 42 (by omega) ot1 rfl 11 (by decide) (hts (.fieldLink RX3 36 "LibraryDeskModel" "wanted" "[I") (by decide +kernel)) (fun _ h9 => h9) rfl dX3_does_191 ?_
      refine lv_iload_n hx hb dX3_does_194 rfl (lv_at hl 2 rfl) ?_
      refine wr_iald (v := (pl c1).1) hx hb hw 51 (by omega) 0 c1t1 rfl (vp_in_nI (by omega) (by decide)) (by rw [(nI_clamp (by omega))]; exact (hPlt1 c1 hc).1) dX3_does_195 ?_
      refine lv_iload_n hx hb dX3_does_196 rfl (lv_at hl 4 rfl) ?_
      refine wc_i hw (va_runV (As := [.int ((pl c1).1), .int z]) (rest := []) ⟨hx, hb, hml, hown, hts⟩ (kX3_drops l dC dI q ad en n _ hn58 th A O pl cs an wy pla hok hM ((pl c1).1) z) (cwV 2 hts gX3_does_X3_drops rfl rfl rfl (by decide +kernel) ⟨Nat.le_of_ble_eq_true rfl, Nat.le_of_ble_eq_true rfl⟩) (wk_preV hw (by omega) ot1 rfl) rfl rfl hl.1 rfl (lv_room (Nat.le_of_ble_eq_true rfl)) dX3_does_197 ⟨Nat.le_refl _, Nat.le_refl _⟩) (fun r88 en90 H locs hp89 hw => ?_)
      obtain ⟨hr1, hM1, hfr1⟩ := hp89
      obtain ⟨ot91, ⟨hFt91, mFt91, tFt91, rFt91, a1t91, a2t91, a3t91, a4t91, hRt91⟩, ⟨oht91, omt91, ott91, orrt91, b1t91, b2t91, b3t91, b4t91, hOt91⟩, ⟨wFt91, sFt91, kFt91, aFt91, fFt91, xFt91, c1t91, c2t91, c3t91, c4t91, c5t91, c6t91, hPlt91⟩, ⟨gFt91, e1t91, hTt91⟩⟩ := id hM1
      refine lv_if_eq (tgt := 207) hx hb dX3_does_200 (by decide) (fun c200 => ?_) (fun c200 => ?_)
      · refine lv_bipush (v := 7) hx hb dX3_does_207 (by decide) ?_
        refine we_i hx hb hr hlocks hw ?_ dX3_does_209
        have hA := aDo_6 (z := z) (a := a) (A := A) (x := an) (k := k) ess
        rw [hA]
        exact ⟨by rw [if_neg (z01_f hr1 c200)], hM1, fun j hj => hfr1 j hj⟩
      · refine lv_iconst (v := 0) hx hb dX3_does_203 (by decide) ?_
        refine lv_goto (tgt := 209) hx hb dX3_does_204 (by decide) ?_
        refine we_i hx hb hr hlocks hw ?_ dX3_does_209
        have hA := aDo_6 (z := z) (a := a) (A := A) (x := an) (k := k) ess
        rw [hA]
        exact ⟨by rw [if_pos (z01_t hr1 c200)], hM1, fun j hj => hfr1 j hj⟩

set_option maxHeartbeats 4000000 in
set_option maxRecDepth 100000 in
theorem kX3_may (l : Launch) (dC : Nat → ClassId) (dI : Nat → Nat → Nat) (q : ClassId × ClassId × ClassId × ClassId) (ad : Nat → Nat) (en : Nat → va_E) (n sz : Nat) (hn58 : 58 ≤ n) (th : Int32) (A O : Ast) (pl : Nat → Pst) (cs : Nat → Int32) (an : Int64) (wy pla : Int32) (hok : Aok A) (hM : ModC q ad en th A O pl cs an wy pla) (cv z : Int32) :
    Met l yX3_may wsX3_may ({ frames := 2, cells := 0, slots := 0, locals := 42 }) (wPc (dC, dI) vwCl (wT q) ad en n sz [.ref (ad 42), .int cv, .int z]) (va_Qi (fun (r : Int32) (en' : Nat → va_E) => r = (if ¬ sRef cv z A pl then 1 else 0) ∧ en' = en) (wB (dC, dI) vwCl (wT q) ad n (wA ad n sz)) (wA ad n sz)) 0 0 (wA ad n sz) := by
  refine Met.ofW (cc := cX3_may) (maxL := 3) (ret := (some .boolean)) (by decide) rfl ?_
  intro p e s m args below meth c s₁ B hml hv
  obtain ⟨rfl, hsz, hP, hK, hD0, hE0⟩ := hv
  have hx := B.exec
  have hb := B.bytes
  have hr := B.returns
  have hts := atoms_spec (ws := wsX3_may) B.pre
  have hown : s.vm.findClass RX3 = some m.cls := findClass_of_methodNamed B.named
  have hlocks := B.notSynchronized
  have iRX3 : ∀ w ∈ u_ws RX3 TX3 21, w ∈ wsX3_may := by decide +kernel
  subst hsz
  have hw := wk_of hP hK hD0 hE0
  generalize wA ad n s.heap.size = AA at hw ⊢
  have hl := lv_entry ([.ref (ad 42), .int cv, .int z]) (n := 3) (Nat.le_of_ble_eq_true rfl)
  rw [lg_entry_eq]
  generalize (lg_sl ([.ref (ad 42), .int cv, .int z]) ++ List.replicate (3 - (lg_sl ([.ref (ad 42), .int cv, .int z])).length) Slot.unset).toArray = ls at hl ⊢
  have hl : lv_has ls 3 [(0, .ref (ad 42)), (1, .int cv), (2, .int z)] := hl
  obtain ⟨ot1, ⟨hFt1, mFt1, tFt1, rFt1, a1t1, a2t1, a3t1, a4t1, hRt1⟩, ⟨oht1, omt1, ott1, orrt1, b1t1, b2t1, b3t1, b4t1, hOt1⟩, ⟨wFt1, sFt1, kFt1, aFt1, fFt1, xFt1, c1t1, c2t1, c3t1, c4t1, c5t1, c6t1, hPlt1⟩, ⟨gFt1, e1t1, hTt1⟩⟩ := id hM
  have hcn := hok.2
  refine lv_iload_n hx hb dX3_may_0 rfl (lv_at hl 1 rfl) ?_
  refine wc_i hw (va_runS (As := [.int cv]) (rest := []) ⟨hx, hb, hml, hown, hts⟩ (kX3_isCall l dC dI q ad en n _ cv) (va_cwS 1 hts gX3_may_X3_isCall rfl rfl rfl (by decide +kernel) ⟨Nat.le_of_ble_eq_true rfl, Nat.le_of_ble_eq_true rfl⟩) (wk_preS hw) rfl rfl hl.1 rfl (lv_room (Nat.le_of_ble_eq_true rfl)) dX3_may_1 ⟨Nat.le_refl _, Nat.le_refl _⟩) (fun r2 en4 H locs hp3 hw => ?_)
  obtain ⟨hr5, hn6⟩ := hp3
  rw [hn6] at hw
  clear hn6
  refine lv_if_eq (tgt := 35) hx hb dX3_may_4 (by decide) (fun c4 => ?_) (fun c4 => ?_)
  · have hcv := z01_f hr5 c4
    refine lv_iconst (v := 0) hx hb dX3_may_35 (by decide) ?_
    refine we_z hx hb hr hlocks hw (Or.inl rfl) ?_ dX3_may_36
    exact ⟨by rw [if_neg (fun h => h (Or.inl hcv))], rfl⟩
  · have hcv := z01_t hr5 c4
    obtain ⟨c1, hc, ecv⟩ := okC_of hcv
    subst ecv
    refine lv_aload_n hx hb dX3_may_7 rfl (lv_at hl 0 rfl) ?_
    refine wr_get (ci := 4) (C := RX3) (T := TX3) (N := 21) hx hb hts iRX3 hown hw 42 (by omega) ot1 rfl 11 (by decide) (hts (.fieldLink RX3 36 "LibraryDeskModel" "wanted" "[I") (by decide +kernel)) (fun _ h9 => h9) rfl dX3_may_8 ?_
    refine lv_iload_n hx hb dX3_may_11 rfl (lv_at hl 1 rfl) ?_
    refine wr_iald (v := (pl c1).1) hx hb hw 51 (by omega) 0 c1t1 rfl (vp_in_nI (by omega) (by decide)) (by rw [(nI_clamp (by omega))]; exact (hPlt1 c1 hc).1) dX3_may_12 ?_
    refine lv_iconst (v := (-1)) hx hb dX3_may_13 (by decide) ?_
    refine lv_icmp_eq (tgt := 31) hx hb dX3_may_14 (by decide) (fun c14 => ?_) (fun c14 => ?_)
    · refine lv_iconst (v := 1) hx hb dX3_may_31 (by decide) ?_
      refine lv_goto (tgt := 36) hx hb dX3_may_32 (by decide) ?_
      refine we_z hx hb hr hlocks hw (Or.inr rfl) ?_ dX3_may_36
      exact ⟨by rw [if_pos (fun h => ((sRef_ok hc).mp h).1 c14)], rfl⟩
    · refine lv_aload_n hx hb dX3_may_17 rfl (lv_at hl 0 rfl) ?_
      refine lv_aload_n hx hb dX3_may_18 rfl (lv_at hl 0 rfl) ?_
      refine wr_get (ci := 4) (C := RX3) (T := TX3) (N := 21) hx hb hts iRX3 hown hw 42 (by omega) ot1 rfl 11 (by decide) (hts (.fieldLink RX3 36 "LibraryDeskModel" "wanted" "[I") (by decide +kernel)) (fun _ h9 => h9) rfl dX3_may_19 ?_
      refine lv_iload_n hx hb dX3_may_22 rfl (lv_at hl 1 rfl) ?_
      refine wr_iald (v := (pl c1).1) hx hb hw 51 (by omega) 0 c1t1 rfl (vp_in_nI (by omega) (by decide)) (by rw [(nI_clamp (by omega))]; exact (hPlt1 c1 hc).1) dX3_may_23 ?_
      refine lv_iload_n hx hb dX3_may_24 rfl (lv_at hl 2 rfl) ?_
      refine wc_i hw (va_runV (As := [.int ((pl c1).1), .int z]) (rest := []) ⟨hx, hb, hml, hown, hts⟩ (kX3_isHere l dC dI q ad en n _ hn58 th A O pl cs an wy pla hok hM ((pl c1).1) z) (cwV 2 hts gX3_may_X3_isHere rfl rfl rfl (by decide +kernel) ⟨Nat.le_of_ble_eq_true rfl, Nat.le_of_ble_eq_true rfl⟩) (wk_preV hw (by omega) ot1 rfl) rfl rfl hl.1 rfl (lv_room (Nat.le_of_ble_eq_true rfl)) dX3_may_25 ⟨Nat.le_refl _, Nat.le_refl _⟩) (fun r7 en9 H locs hp8 hw => ?_)
      obtain ⟨hr10, hn11⟩ := hp8
      rw [hn11] at hw
      clear hn11
      refine lv_if_eq (tgt := 35) hx hb dX3_may_28 (by decide) (fun c28 => ?_) (fun c28 => ?_)
      · have hh := z01_f hr10 c28
        refine lv_iconst (v := 0) hx hb dX3_may_35 (by decide) ?_
        refine we_z hx hb hr hlocks hw (Or.inl rfl) ?_ dX3_may_36
        exact ⟨by rw [if_neg (fun h => h ((sRef_ok hc).mpr ⟨c14, hh⟩))], rfl⟩
      · have hh := z01_t hr10 c28
        refine lv_iconst (v := 1) hx hb dX3_may_31 (by decide) ?_
        refine lv_goto (tgt := 36) hx hb dX3_may_32 (by decide) ?_
        refine we_z hx hb hr hlocks hw (Or.inr rfl) ?_ dX3_may_36
        exact ⟨by rw [if_pos (fun h => ((sRef_ok hc).mp h).2 hh)], rfl⟩

set_option maxHeartbeats 4000000 in
set_option maxRecDepth 100000 in
theorem kX3_done (l : Launch) (dC : Nat → ClassId) (dI : Nat → Nat → Nat) (q : ClassId × ClassId × ClassId × ClassId) (ad : Nat → Nat) (en : Nat → va_E) (n sz : Nat) (hn58 : 58 ≤ n) (th : Int32) (A O : Ast) (pl : Nat → Pst) (cs : Nat → Int32) (an : Int64) (wy pla : Int32) (hok : Aok A) (hM : ModC q ad en th A O pl cs an wy pla) (hokO : Aok O) (c1 : Nat) (hc : c1 < 10) (hpk : Pok (pl c1)) (z : Int32) (a : Int64) :
    Met l yX3_done wsX3_done ({ frames := 4, cells := 0, slots := 0, locals := 90 }) (wPc (dC, dI) vwCl (wT q) ad en n sz [.ref (ad 42), .int (nI c1), .int z, .long a]) (va_Qi (fun (r : Int32) (en' : Nat → va_E) => r = (if (tR (pl c1) z a A).1 = 0 then 1 else 0) ∧ ∃ pla2 : Int32, ModC q ad en' th (if (tR (pl c1) z a A).1 = 0 then (tR (pl c1) z a A).2.2.1 else A) A pl cs (tR (pl c1) z a A).2.2.2 (tR (pl c1) z a A).1 pla2 ∧ (¬ (tR (pl c1) z a A).1 = 0 → pla2 = nI (tR (pl c1) z a A).2.1) ∧ ∀ j, (j < 42 ∨ 58 ≤ j) → en' j = en j) (wB (dC, dI) vwCl (wT q) ad n (wA ad n sz)) (wA ad n sz)) 0 0 (wA ad n sz) := by
  refine Met.ofW (cc := cX3_done) (maxL := 6) (ret := (some .boolean)) (by decide) rfl ?_
  intro p e s m args below meth c s₁ B hml hv
  obtain ⟨rfl, hsz, hP, hK, hD0, hE0⟩ := hv
  have hx := B.exec
  have hb := B.bytes
  have hr := B.returns
  have hts := atoms_spec (ws := wsX3_done) B.pre
  have hown : s.vm.findClass RX3 = some m.cls := findClass_of_methodNamed B.named
  have hlocks := B.notSynchronized
  have iRX3 : ∀ w ∈ u_ws RX3 TX3 21, w ∈ wsX3_done := by decide +kernel
  subst hsz
  have hw := wk_of hP hK hD0 hE0
  generalize wA ad n s.heap.size = AA at hw ⊢
  have hl := lv_entry ([.ref (ad 42), .int (nI c1), .int z, .long a]) (n := 6) (Nat.le_of_ble_eq_true rfl)
  rw [lg_entry_eq]
  generalize (lg_sl ([.ref (ad 42), .int (nI c1), .int z, .long a]) ++ List.replicate (6 - (lg_sl ([.ref (ad 42), .int (nI c1), .int z, .long a])).length) Slot.unset).toArray = ls at hl ⊢
  have hl : lv_has ls 6 [(0, .ref (ad 42)), (1, .int (nI c1)), (2, .int z), (3, .long a)] := hl
  obtain ⟨ot1, ⟨hFt1, mFt1, tFt1, rFt1, a1t1, a2t1, a3t1, a4t1, hRt1⟩, ⟨oht1, omt1, ott1, orrt1, b1t1, b2t1, b3t1, b4t1, hOt1⟩, ⟨wFt1, sFt1, kFt1, aFt1, fFt1, xFt1, c1t1, c2t1, c3t1, c4t1, c5t1, c6t1, hPlt1⟩, ⟨gFt1, e1t1, hTt1⟩⟩ := id hM
  have hcn := hok.2
  refine lv_aload_n hx hb dX3_done_0 rfl (lv_at hl 0 rfl) ?_
  refine wc_v hw (va_runV (As := []) (rest := []) ⟨hx, hb, hml, hown, hts⟩ (kX3_keep l dC dI q ad en n _ hn58 th A O pl cs an wy pla hok hM hokO) (cwV 0 hts gX3_done_X3_keep rfl rfl rfl (by decide +kernel) ⟨Nat.le_of_ble_eq_true rfl, Nat.le_of_ble_eq_true rfl⟩) (wk_preV hw (by omega) ot1 rfl) rfl rfl hl.1 rfl (lv_room (Nat.le_of_ble_eq_true rfl)) dX3_done_1 ⟨Nat.le_refl _, Nat.le_refl _⟩) (fun en4 H locs hp3 hw => ?_)
  obtain ⟨hM1, hfr1⟩ := hp3
  obtain ⟨ot5, ⟨hFt5, mFt5, tFt5, rFt5, a1t5, a2t5, a3t5, a4t5, hRt5⟩, ⟨oht5, omt5, ott5, orrt5, b1t5, b2t5, b3t5, b4t5, hOt5⟩, ⟨wFt5, sFt5, kFt5, aFt5, fFt5, xFt5, c1t5, c2t5, c3t5, c4t5, c5t5, c6t5, hPlt5⟩, ⟨gFt5, e1t5, hTt5⟩⟩ := id hM1
  refine lv_aload_n hx hb dX3_done_4 rfl (lv_at hl 0 rfl) ?_
  refine lv_lload_n hx hb dX3_done_5 rfl (lv_at hl 3 rfl) ?_
  refine wr_put (ci := 4) (v := .long a) (ty := .long) (C := RX3) (T := TX3) (N := 21) hx hb hts iRX3 tyX3 tyX3_ok nmX3 hown hw 42 (by omega) ot5 rfl 18 (by decide) (hts (.fieldLink RX3 94 "LibraryDeskModel" "answer" "J") (by decide +kernel)) (fun _ h9 => h9) rfl (by decide +kernel) rfl rfl (Nat.le_of_ble_eq_true rfl) dX3_done_6 (fun en7 H locs hE6 hw => ?_)
  have he8 : en7 42 = .inr (4, [.int th, .ref (ad 43), .ref (ad 44), .ref (ad 45), .ref (ad 46), .int (nI (aCn A)), .ref (ad 47), .ref (ad 48), .ref (ad 49), .ref (ad 50), .int (nI (aCn A)), .ref (ad 51), .ref (ad 52), .ref (ad 53), .ref (ad 54), .ref (ad 55), .ref (ad 56), .ref (ad 57), .long a, .int wy, .int pla]) := w_self hE6
  have he9 : en7 43 = .inl (q.2.2.1, 328, .inl hFt5) := w_ne hE6 (by omega) a1t5
  have he10 : en7 44 = .inl (q.1, 8, .inl mFt5) := w_ne hE6 (by omega) a2t5
  have he11 : en7 45 = .inl (q.2.1, 8, .inr (.inl tFt5)) := w_ne hE6 (by omega) a3t5
  have he12 : en7 46 = .inl (q.2.1, 20, .inr (.inl rFt5)) := w_ne hE6 (by omega) a4t5
  have he13 : en7 47 = .inl (q.2.2.1, 328, .inl oht5) := w_ne hE6 (by omega) b1t5
  have he14 : en7 48 = .inl (q.1, 8, .inl omt5) := w_ne hE6 (by omega) b2t5
  have he15 : en7 49 = .inl (q.2.1, 8, .inr (.inl ott5)) := w_ne hE6 (by omega) b3t5
  have he16 : en7 50 = .inl (q.2.1, 20, .inr (.inl orrt5)) := w_ne hE6 (by omega) b4t5
  have he17 : en7 51 = .inl (q.1, 10, .inl wFt5) := w_ne hE6 (by omega) c1t5
  have he18 : en7 52 = .inl (q.1, 60, .inl sFt5) := w_ne hE6 (by omega) c2t5
  have he19 : en7 53 = .inl (q.1, 60, .inl kFt5) := w_ne hE6 (by omega) c3t5
  have he20 : en7 54 = .inl (q.1, 10, .inl aFt5) := w_ne hE6 (by omega) c4t5
  have he21 : en7 55 = .inl (q.1, 10, .inl fFt5) := w_ne hE6 (by omega) c5t5
  have he22 : en7 56 = .inl (q.1, 10, .inl xFt5) := w_ne hE6 (by omega) c6t5
  have he23 : en7 57 = .inl (q.1, 7, .inl gFt5) := w_ne hE6 (by omega) e1t5
  refine lv_aload_n hx hb dX3_done_9 rfl (lv_at hl 0 rfl) ?_
  refine lv_iconst (v := 0) hx hb dX3_done_10 (by decide) ?_
  refine wr_put (ci := 4) (v := .int 0) (ty := .int) (C := RX3) (T := TX3) (N := 21) hx hb hts iRX3 tyX3 tyX3_ok nmX3 hown hw 42 (by omega) he8 rfl 19 (by decide) (hts (.fieldLink RX3 104 "LibraryDeskModel" "why" "I") (by decide +kernel)) (fun _ h9 => h9) rfl (by decide +kernel) rfl rfl (Nat.le_of_ble_eq_true rfl) dX3_done_11 (fun en25 H locs hE24 hw => ?_)
  have he26 : en25 42 = .inr (4, [.int th, .ref (ad 43), .ref (ad 44), .ref (ad 45), .ref (ad 46), .int (nI (aCn A)), .ref (ad 47), .ref (ad 48), .ref (ad 49), .ref (ad 50), .int (nI (aCn A)), .ref (ad 51), .ref (ad 52), .ref (ad 53), .ref (ad 54), .ref (ad 55), .ref (ad 56), .ref (ad 57), .long a, .int 0, .int pla]) := w_self hE24
  have he27 : en25 43 = .inl (q.2.2.1, 328, .inl hFt5) := w_ne hE24 (by omega) he9
  have he28 : en25 44 = .inl (q.1, 8, .inl mFt5) := w_ne hE24 (by omega) he10
  have he29 : en25 45 = .inl (q.2.1, 8, .inr (.inl tFt5)) := w_ne hE24 (by omega) he11
  have he30 : en25 46 = .inl (q.2.1, 20, .inr (.inl rFt5)) := w_ne hE24 (by omega) he12
  have he31 : en25 47 = .inl (q.2.2.1, 328, .inl oht5) := w_ne hE24 (by omega) he13
  have he32 : en25 48 = .inl (q.1, 8, .inl omt5) := w_ne hE24 (by omega) he14
  have he33 : en25 49 = .inl (q.2.1, 8, .inr (.inl ott5)) := w_ne hE24 (by omega) he15
  have he34 : en25 50 = .inl (q.2.1, 20, .inr (.inl orrt5)) := w_ne hE24 (by omega) he16
  have he35 : en25 51 = .inl (q.1, 10, .inl wFt5) := w_ne hE24 (by omega) he17
  have he36 : en25 52 = .inl (q.1, 60, .inl sFt5) := w_ne hE24 (by omega) he18
  have he37 : en25 53 = .inl (q.1, 60, .inl kFt5) := w_ne hE24 (by omega) he19
  have he38 : en25 54 = .inl (q.1, 10, .inl aFt5) := w_ne hE24 (by omega) he20
  have he39 : en25 55 = .inl (q.1, 10, .inl fFt5) := w_ne hE24 (by omega) he21
  have he40 : en25 56 = .inl (q.1, 10, .inl xFt5) := w_ne hE24 (by omega) he22
  have he41 : en25 57 = .inl (q.1, 7, .inl gFt5) := w_ne hE24 (by omega) he23
  refine lv_iconst (v := 0) hx hb dX3_done_14 (by decide) ?_
  refine lv_istore (lv' := [(5, .int 0), (0, .ref (ad 42)), (1, .int (nI c1)), (2, .int z), (3, .long a)]) hx hb dX3_done_15 hl (by decide) rfl (fun ls hl => ?_)
  have hM2 : ModC q ad en25 th A A pl cs a 0 pla := ⟨he26, ⟨_, _, _, _, he27, he28, he29, he30, hRt5⟩, ⟨_, _, _, _, he31, he32, he33, he34, hOt5⟩, ⟨_, _, _, _, _, _, he35, he36, he37, he38, he39, he40, hPlt5⟩, ⟨_, he41, hTt5⟩⟩
  have keyF : ∀ (i : Nat) (en1 : Nat → va_E) (Zi : Ast) (xi : Int64) (w1 : Int32) (pp : Nat), Aok Zi → ModC q ad en1 th Zi A pl cs xi w1 (nI pp) → ¬ w1 = 0 → (tR (pl c1) z a A) = (w1, pp, Zi, xi) → (∀ j, (j < 42 ∨ 58 ≤ j) → en1 j = en j) → ∀ (H : Heap) (locs : List Loc), wk (dC, dI) vwCl (wT q) ad en1 n AA s H locs → ∀ ls : Array Slot, lv_has ls 6 [(5, .int (nI i)), (0, .ref (ad 42)), (1, .int (nI c1)), (2, .int z), (3, .long a)] → W p l e (headSpec wsX3_done ({ frames := 4, cells := 0, slots := 0, locals := 90 })).room s m ([.ref (ad 42), .int (nI c1), .int z, .long a].toArray) below meth c H locs 0 0 (MQ below (va_Qi (fun (r : Int32) (en' : Nat → va_E) => r = (if (tR (pl c1) z a A).1 = 0 then 1 else 0) ∧ ∃ pla2 : Int32, ModC q ad en' th (if (tR (pl c1) z a A).1 = 0 then (tR (pl c1) z a A).2.2.1 else A) A pl cs (tR (pl c1) z a A).2.2.2 (tR (pl c1) z a A).1 pla2 ∧ (¬ (tR (pl c1) z a A).1 = 0 → pla2 = nI (tR (pl c1) z a A).2.1) ∧ ∀ j, (j < 42 ∨ 58 ≤ j) → en' j = en j) (wB (dC, dI) vwCl (wT q) ad n AA) AA) ([.ref (ad 42), .int (nI c1), .int z, .long a].toArray) s 0 0 AA) (F0 m 17 ls []) := by
    intro i en1 Zi xi w1 pp hokZ hMf hw1 hres hfr H locs hw ls hl
    have hpk6 := hpk.1
    obtain ⟨ot42, ⟨hFt42, mFt42, tFt42, rFt42, a1t42, a2t42, a3t42, a4t42, hRt42⟩, ⟨oht42, omt42, ott42, orrt42, b1t42, b2t42, b3t42, b4t42, hOt42⟩, ⟨wFt42, sFt42, kFt42, aFt42, fFt42, xFt42, c1t42, c2t42, c3t42, c4t42, c5t42, c6t42, hPlt42⟩, ⟨gFt42, e1t42, hTt42⟩⟩ := id hMf
    refine lv_iload hx hb dX3_done_17 (lv_at hl 0 rfl) ?_
    refine lv_aload_n hx hb dX3_done_19 rfl (lv_at hl 1 rfl) ?_
    refine wr_get (ci := 4) (C := RX3) (T := TX3) (N := 21) hx hb hts iRX3 hown hw 42 (by omega) ot42 rfl 14 (by decide) (hts (.fieldLink RX3 45 "LibraryDeskModel" "acts" "[I") (by decide +kernel)) (fun _ h9 => h9) rfl dX3_done_20 ?_
    refine lv_iload_n hx hb dX3_done_23 rfl (lv_at hl 2 rfl) ?_
    refine wr_iald (v := nI (pl c1).2.1) hx hb hw 54 (by omega) 0 c4t42 rfl (vp_in_nI (by omega) (by decide)) (by rw [(nI_clamp (by omega))]; exact (hPlt42 c1 hc).2.1) dX3_done_24 ?_
    refine lv_icmp_ge (tgt := 80) hx hb dX3_done_25 (by decide) (fun c25 => ?_) (fun c25 => ?_)
    · refine lv_aload_n hx hb dX3_done_80 rfl (lv_at hl 1 rfl) ?_
      refine wr_get (ci := 4) (C := RX3) (T := TX3) (N := 21) hx hb hts iRX3 hown hw 42 (by omega) ot42 rfl 19 (by decide) (hts (.fieldLink RX3 104 "LibraryDeskModel" "why" "I") (by decide +kernel)) (fun _ h9 => h9) rfl dX3_done_81 ?_
      refine lv_if_eq (tgt := 91) hx hb dX3_done_84 (by decide) (fun c84 => ?_) (fun c84 => ?_)
      · exact absurd c84 hw1
      · refine lv_aload_n hx hb dX3_done_87 rfl (lv_at hl 1 rfl) ?_
        refine wc_v hw (va_runV (As := []) (rest := []) ⟨hx, hb, hml, hown, hts⟩ (kX3_restore l dC dI q ad en1 n _ hn58 th Zi A pl cs xi w1 (nI pp) hokZ hMf hok) (cwV 0 hts gX3_done_X3_restore rfl rfl rfl (by decide +kernel) ⟨Nat.le_of_ble_eq_true rfl, Nat.le_of_ble_eq_true rfl⟩) (wk_preV hw (by omega) ot42 rfl) rfl rfl hl.1 rfl (lv_room (Nat.le_of_ble_eq_true rfl)) dX3_done_88 ⟨Nat.le_refl _, Nat.le_refl _⟩) (fun en45 H locs hp44 hw => ?_)
        obtain ⟨hM6, hfr6⟩ := hp44
        obtain ⟨ot46, ⟨hFt46, mFt46, tFt46, rFt46, a1t46, a2t46, a3t46, a4t46, hRt46⟩, ⟨oht46, omt46, ott46, orrt46, b1t46, b2t46, b3t46, b4t46, hOt46⟩, ⟨wFt46, sFt46, kFt46, aFt46, fFt46, xFt46, c1t46, c2t46, c3t46, c4t46, c5t46, c6t46, hPlt46⟩, ⟨gFt46, e1t46, hTt46⟩⟩ := id hM6
        refine lv_aload_n hx hb dX3_done_91 rfl (lv_at hl 1 rfl) ?_
        refine wr_get (ci := 4) (C := RX3) (T := TX3) (N := 21) hx hb hts iRX3 hown hw 42 (by omega) ot46 rfl 19 (by decide) (hts (.fieldLink RX3 104 "LibraryDeskModel" "why" "I") (by decide +kernel)) (fun _ h9 => h9) rfl dX3_done_92 ?_
        refine lv_if_ne (tgt := 102) hx hb dX3_done_95 (by decide) (fun c95 => ?_) (fun c95 => ?_)
        · refine lv_iconst (v := 0) hx hb dX3_done_102 (by decide) ?_
          refine we_z hx hb hr hlocks hw (Or.inl rfl) ?_ dX3_done_103
          rw [hres, if_neg (show ¬ (w1, pp, Zi, xi).1 = 0 from hw1), if_neg (show ¬ (w1, pp, Zi, xi).1 = 0 from hw1)]
          exact ⟨rfl, nI pp, hM6, fun _ => rfl, fun j hj => (hfr6 j hj).trans (hfr j hj)⟩
        · exact absurd c95 hw1
    · refine lv_aload_n hx hb dX3_done_28 rfl (lv_at hl 1 rfl) ?_
      refine wr_get (ci := 4) (C := RX3) (T := TX3) (N := 21) hx hb hts iRX3 hown hw 42 (by omega) ot42 rfl 19 (by decide) (hts (.fieldLink RX3 104 "LibraryDeskModel" "why" "I") (by decide +kernel)) (fun _ h9 => h9) rfl dX3_done_29 ?_
      refine lv_if_ne (tgt := 80) hx hb dX3_done_32 (by decide) (fun c32 => ?_) (fun c32 => ?_)
      · refine lv_aload_n hx hb dX3_done_80 rfl (lv_at hl 1 rfl) ?_
        refine wr_get (ci := 4) (C := RX3) (T := TX3) (N := 21) hx hb hts iRX3 hown hw 42 (by omega) ot42 rfl 19 (by decide) (hts (.fieldLink RX3 104 "LibraryDeskModel" "why" "I") (by decide +kernel)) (fun _ h9 => h9) rfl dX3_done_81 ?_
        refine lv_if_eq (tgt := 91) hx hb dX3_done_84 (by decide) (fun c84 => ?_) (fun c84 => ?_)
        · exact absurd c84 hw1
        · refine lv_aload_n hx hb dX3_done_87 rfl (lv_at hl 1 rfl) ?_
          refine wc_v hw (va_runV (As := []) (rest := []) ⟨hx, hb, hml, hown, hts⟩ (kX3_restore l dC dI q ad en1 n _ hn58 th Zi A pl cs xi w1 (nI pp) hokZ hMf hok) (cwV 0 hts gX3_done_X3_restore rfl rfl rfl (by decide +kernel) ⟨Nat.le_of_ble_eq_true rfl, Nat.le_of_ble_eq_true rfl⟩) (wk_preV hw (by omega) ot42 rfl) rfl rfl hl.1 rfl (lv_room (Nat.le_of_ble_eq_true rfl)) dX3_done_88 ⟨Nat.le_refl _, Nat.le_refl _⟩) (fun en49 H locs hp48 hw => ?_)
          obtain ⟨hM6, hfr6⟩ := hp48
          obtain ⟨ot50, ⟨hFt50, mFt50, tFt50, rFt50, a1t50, a2t50, a3t50, a4t50, hRt50⟩, ⟨oht50, omt50, ott50, orrt50, b1t50, b2t50, b3t50, b4t50, hOt50⟩, ⟨wFt50, sFt50, kFt50, aFt50, fFt50, xFt50, c1t50, c2t50, c3t50, c4t50, c5t50, c6t50, hPlt50⟩, ⟨gFt50, e1t50, hTt50⟩⟩ := id hM6
          refine lv_aload_n hx hb dX3_done_91 rfl (lv_at hl 1 rfl) ?_
          refine wr_get (ci := 4) (C := RX3) (T := TX3) (N := 21) hx hb hts iRX3 hown hw 42 (by omega) ot50 rfl 19 (by decide) (hts (.fieldLink RX3 104 "LibraryDeskModel" "why" "I") (by decide +kernel)) (fun _ h9 => h9) rfl dX3_done_92 ?_
          refine lv_if_ne (tgt := 102) hx hb dX3_done_95 (by decide) (fun c95 => ?_) (fun c95 => ?_)
          · refine lv_iconst (v := 0) hx hb dX3_done_102 (by decide) ?_
            refine we_z hx hb hr hlocks hw (Or.inl rfl) ?_ dX3_done_103
            rw [hres, if_neg (show ¬ (w1, pp, Zi, xi).1 = 0 from hw1), if_neg (show ¬ (w1, pp, Zi, xi).1 = 0 from hw1)]
            exact ⟨rfl, nI pp, hM6, fun _ => rfl, fun j hj => (hfr6 j hj).trans (hfr j hj)⟩
          · exact absurd c95 hw1
      · exact absurd c32 hw1
  have key : ∀ (f i : Nat), i + f = (pl c1).2.1 → ∀ (en1 : Nat → va_E) (Zi : Ast) (xi : Int64) (pla1 : Int32), Aok Zi → ModC q ad en1 th Zi A pl cs xi 0 pla1 → aRun (pl c1) z a f i Zi xi = (tR (pl c1) z a A) → (∀ j, (j < 42 ∨ 58 ≤ j) → en1 j = en j) → ∀ (H : Heap) (locs : List Loc), wk (dC, dI) vwCl (wT q) ad en1 n AA s H locs → ∀ ls : Array Slot, lv_has ls 6 [(5, .int (nI i)), (0, .ref (ad 42)), (1, .int (nI c1)), (2, .int z), (3, .long a)] → W p l e (headSpec wsX3_done ({ frames := 4, cells := 0, slots := 0, locals := 90 })).room s m ([.ref (ad 42), .int (nI c1), .int z, .long a].toArray) below meth c H locs 0 0 (MQ below (va_Qi (fun (r : Int32) (en' : Nat → va_E) => r = (if (tR (pl c1) z a A).1 = 0 then 1 else 0) ∧ ∃ pla2 : Int32, ModC q ad en' th (if (tR (pl c1) z a A).1 = 0 then (tR (pl c1) z a A).2.2.1 else A) A pl cs (tR (pl c1) z a A).2.2.2 (tR (pl c1) z a A).1 pla2 ∧ (¬ (tR (pl c1) z a A).1 = 0 → pla2 = nI (tR (pl c1) z a A).2.1) ∧ ∀ j, (j < 42 ∨ 58 ≤ j) → en' j = en j) (wB (dC, dI) vwCl (wT q) ad n AA) AA) ([.ref (ad 42), .int (nI c1), .int z, .long a].toArray) s 0 0 AA) (F0 m 17 ls []) := by
    intro f
    induction f with
    | zero =>
      intro i hif en1 Zi xi pla1 hokZ hMf hres hfr H locs hw ls hl
      have hpk6 := hpk.1
      have hi6 : i ≤ 6 := by omega
      obtain ⟨ot51, ⟨hFt51, mFt51, tFt51, rFt51, a1t51, a2t51, a3t51, a4t51, hRt51⟩, ⟨oht51, omt51, ott51, orrt51, b1t51, b2t51, b3t51, b4t51, hOt51⟩, ⟨wFt51, sFt51, kFt51, aFt51, fFt51, xFt51, c1t51, c2t51, c3t51, c4t51, c5t51, c6t51, hPlt51⟩, ⟨gFt51, e1t51, hTt51⟩⟩ := id hMf
      refine lv_iload hx hb dX3_done_17 (lv_at hl 0 rfl) ?_
      refine lv_aload_n hx hb dX3_done_19 rfl (lv_at hl 1 rfl) ?_
      refine wr_get (ci := 4) (C := RX3) (T := TX3) (N := 21) hx hb hts iRX3 hown hw 42 (by omega) ot51 rfl 14 (by decide) (hts (.fieldLink RX3 45 "LibraryDeskModel" "acts" "[I") (by decide +kernel)) (fun _ h9 => h9) rfl dX3_done_20 ?_
      refine lv_iload_n hx hb dX3_done_23 rfl (lv_at hl 2 rfl) ?_
      refine wr_iald (v := nI (pl c1).2.1) hx hb hw 54 (by omega) 0 c4t51 rfl (vp_in_nI (by omega) (by decide)) (by rw [(nI_clamp (by omega))]; exact (hPlt51 c1 hc).2.1) dX3_done_24 ?_
      refine lv_icmp_ge (tgt := 80) hx hb dX3_done_25 (by decide) (fun c25 => ?_) (fun c25 => ?_)
      · refine lv_aload_n hx hb dX3_done_80 rfl (lv_at hl 1 rfl) ?_
        refine wr_get (ci := 4) (C := RX3) (T := TX3) (N := 21) hx hb hts iRX3 hown hw 42 (by omega) ot51 rfl 19 (by decide) (hts (.fieldLink RX3 104 "LibraryDeskModel" "why" "I") (by decide +kernel)) (fun _ h9 => h9) rfl dX3_done_81 ?_
        refine lv_if_eq (tgt := 91) hx hb dX3_done_84 (by decide) (fun c84 => ?_) (fun c84 => ?_)
        · refine lv_aload_n hx hb dX3_done_91 rfl (lv_at hl 1 rfl) ?_
          refine wr_get (ci := 4) (C := RX3) (T := TX3) (N := 21) hx hb hts iRX3 hown hw 42 (by omega) ot51 rfl 19 (by decide) (hts (.fieldLink RX3 104 "LibraryDeskModel" "why" "I") (by decide +kernel)) (fun _ h9 => h9) rfl dX3_done_92 ?_
          refine lv_if_ne (tgt := 102) hx hb dX3_done_95 (by decide) (fun c95 => ?_) (fun c95 => ?_)
          · exact absurd rfl c95
          · refine lv_iconst (v := 1) hx hb dX3_done_98 (by decide) ?_
            refine lv_goto (tgt := 103) hx hb dX3_done_99 (by decide) ?_
            refine we_z hx hb hr hlocks hw (Or.inr rfl) ?_ dX3_done_103
            have hres : (0, i, Zi, xi) = (tR (pl c1) z a A) := hres
            rw [← hres]
            exact ⟨rfl, pla1, hMf, fun h => absurd rfl h, fun j hj => hfr j hj⟩
        · exact absurd rfl c84
      · exact absurd (nI_le (by omega) (by omega)) c25
    | succ f ih =>
      intro i hif en1 Zi xi pla1 hokZ hMf hres hfr H locs hw ls hl
      have hpk6 := hpk.1
      have hi6 : i ≤ 6 := by omega
      obtain ⟨ot52, ⟨hFt52, mFt52, tFt52, rFt52, a1t52, a2t52, a3t52, a4t52, hRt52⟩, ⟨oht52, omt52, ott52, orrt52, b1t52, b2t52, b3t52, b4t52, hOt52⟩, ⟨wFt52, sFt52, kFt52, aFt52, fFt52, xFt52, c1t52, c2t52, c3t52, c4t52, c5t52, c6t52, hPlt52⟩, ⟨gFt52, e1t52, hTt52⟩⟩ := id hMf
      refine lv_iload hx hb dX3_done_17 (lv_at hl 0 rfl) ?_
      refine lv_aload_n hx hb dX3_done_19 rfl (lv_at hl 1 rfl) ?_
      refine wr_get (ci := 4) (C := RX3) (T := TX3) (N := 21) hx hb hts iRX3 hown hw 42 (by omega) ot52 rfl 14 (by decide) (hts (.fieldLink RX3 45 "LibraryDeskModel" "acts" "[I") (by decide +kernel)) (fun _ h9 => h9) rfl dX3_done_20 ?_
      refine lv_iload_n hx hb dX3_done_23 rfl (lv_at hl 2 rfl) ?_
      refine wr_iald (v := nI (pl c1).2.1) hx hb hw 54 (by omega) 0 c4t52 rfl (vp_in_nI (by omega) (by decide)) (by rw [(nI_clamp (by omega))]; exact (hPlt52 c1 hc).2.1) dX3_done_24 ?_
      refine lv_icmp_ge (tgt := 80) hx hb dX3_done_25 (by decide) (fun c25 => ?_) (fun c25 => ?_)
      · exact absurd ((nI_leI (by omega) (by omega)).mp c25) (by omega)
      · refine lv_aload_n hx hb dX3_done_28 rfl (lv_at hl 1 rfl) ?_
        refine wr_get (ci := 4) (C := RX3) (T := TX3) (N := 21) hx hb hts iRX3 hown hw 42 (by omega) ot52 rfl 19 (by decide) (hts (.fieldLink RX3 104 "LibraryDeskModel" "why" "I") (by decide +kernel)) (fun _ h9 => h9) rfl dX3_done_29 ?_
        refine lv_if_ne (tgt := 80) hx hb dX3_done_32 (by decide) (fun c32 => ?_) (fun c32 => ?_)
        · exact absurd rfl c32
        · refine lv_aload_n hx hb dX3_done_35 rfl (lv_at hl 1 rfl) ?_
          refine lv_iload hx hb dX3_done_36 (lv_at hl 0 rfl) ?_
          refine wr_put (ci := 4) (v := .int (nI i)) (ty := .int) (C := RX3) (T := TX3) (N := 21) hx hb hts iRX3 tyX3 tyX3_ok nmX3 hown hw 42 (by omega) ot52 rfl 20 (by decide) (hts (.fieldLink RX3 107 "LibraryDeskModel" "place" "I") (by decide +kernel)) (fun _ h9 => h9) rfl (by decide +kernel) rfl rfl (Nat.le_of_ble_eq_true rfl) dX3_done_38 (fun en54 H locs hE53 hw => ?_)
          have he55 : en54 42 = .inr (4, [.int th, .ref (ad 43), .ref (ad 44), .ref (ad 45), .ref (ad 46), .int (nI (aCn Zi)), .ref (ad 47), .ref (ad 48), .ref (ad 49), .ref (ad 50), .int (nI (aCn A)), .ref (ad 51), .ref (ad 52), .ref (ad 53), .ref (ad 54), .ref (ad 55), .ref (ad 56), .ref (ad 57), .long xi, .int 0, .int (nI i)]) := w_self hE53
          have he56 : en54 43 = .inl (q.2.2.1, 328, .inl hFt52) := w_ne hE53 (by omega) a1t52
          have he57 : en54 44 = .inl (q.1, 8, .inl mFt52) := w_ne hE53 (by omega) a2t52
          have he58 : en54 45 = .inl (q.2.1, 8, .inr (.inl tFt52)) := w_ne hE53 (by omega) a3t52
          have he59 : en54 46 = .inl (q.2.1, 20, .inr (.inl rFt52)) := w_ne hE53 (by omega) a4t52
          have he60 : en54 47 = .inl (q.2.2.1, 328, .inl oht52) := w_ne hE53 (by omega) b1t52
          have he61 : en54 48 = .inl (q.1, 8, .inl omt52) := w_ne hE53 (by omega) b2t52
          have he62 : en54 49 = .inl (q.2.1, 8, .inr (.inl ott52)) := w_ne hE53 (by omega) b3t52
          have he63 : en54 50 = .inl (q.2.1, 20, .inr (.inl orrt52)) := w_ne hE53 (by omega) b4t52
          have he64 : en54 51 = .inl (q.1, 10, .inl wFt52) := w_ne hE53 (by omega) c1t52
          have he65 : en54 52 = .inl (q.1, 60, .inl sFt52) := w_ne hE53 (by omega) c2t52
          have he66 : en54 53 = .inl (q.1, 60, .inl kFt52) := w_ne hE53 (by omega) c3t52
          have he67 : en54 54 = .inl (q.1, 10, .inl aFt52) := w_ne hE53 (by omega) c4t52
          have he68 : en54 55 = .inl (q.1, 10, .inl fFt52) := w_ne hE53 (by omega) c5t52
          have he69 : en54 56 = .inl (q.1, 10, .inl xFt52) := w_ne hE53 (by omega) c6t52
          have he70 : en54 57 = .inl (q.1, 7, .inl gFt52) := w_ne hE53 (by omega) e1t52
          have hM3 : ModC q ad en54 th Zi A pl cs xi 0 (nI i) := ⟨he55, ⟨_, _, _, _, he56, he57, he58, he59, hRt52⟩, ⟨_, _, _, _, he60, he61, he62, he63, hOt52⟩, ⟨_, _, _, _, _, _, he64, he65, he66, he67, he68, he69, hPlt52⟩, ⟨_, he70, hTt52⟩⟩
          obtain ⟨ot71, ⟨hFt71, mFt71, tFt71, rFt71, a1t71, a2t71, a3t71, a4t71, hRt71⟩, ⟨oht71, omt71, ott71, orrt71, b1t71, b2t71, b3t71, b4t71, hOt71⟩, ⟨wFt71, sFt71, kFt71, aFt71, fFt71, xFt71, c1t71, c2t71, c3t71, c4t71, c5t71, c6t71, hPlt71⟩, ⟨gFt71, e1t71, hTt71⟩⟩ := id hM3
          refine lv_aload_n hx hb dX3_done_41 rfl (lv_at hl 1 rfl) ?_
          refine lv_aload_n hx hb dX3_done_42 rfl (lv_at hl 1 rfl) ?_
          refine wr_get (ci := 4) (C := RX3) (T := TX3) (N := 21) hx hb hts iRX3 hown hw 42 (by omega) ot71 rfl 15 (by decide) (hts (.fieldLink RX3 48 "LibraryDeskModel" "failsAt" "[I") (by decide +kernel)) (fun _ h9 => h9) rfl dX3_done_43 ?_
          refine lv_iload_n hx hb dX3_done_46 rfl (lv_at hl 2 rfl) ?_
          refine wr_iald (v := (pl c1).2.2.2.2.1) hx hb hw 55 (by omega) 0 c5t71 rfl (vp_in_nI (by omega) (by decide)) (by rw [(nI_clamp (by omega))]; exact (hPlt71 c1 hc).2.2.1) dX3_done_47 ?_
          refine lv_iload hx hb dX3_done_48 (lv_at hl 0 rfl) ?_
          refine lv_icmp_ne (tgt := 62) hx hb dX3_done_50 (by decide) (fun c50 => ?_) (fun c50 => ?_)
          · have htold := c50
            refine lv_aload_n hx hb dX3_done_62 rfl (lv_at hl 1 rfl) ?_
            refine lv_iload_n hx hb dX3_done_63 rfl (lv_at hl 2 rfl) ?_
            refine lv_iload hx hb dX3_done_64 (lv_at hl 0 rfl) ?_
            refine lv_iload_n hx hb dX3_done_66 rfl (lv_at hl 3 rfl) ?_
            refine lv_lload_n hx hb dX3_done_67 rfl (lv_at hl 4 rfl) ?_
            refine wc_i hw (va_runV (As := [.int (nI c1), .int (nI i), .int z, .long a]) (rest := [.ref (ad 42)]) ⟨hx, hb, hml, hown, hts⟩ (kX3_does l dC dI q ad en54 n _ hn58 th Zi A pl cs xi 0 (nI i) hokZ hM3 c1 hc hpk i (by omega) z a) (cwV 4 hts gX3_done_X3_does rfl rfl rfl (by decide +kernel) ⟨Nat.le_of_ble_eq_true rfl, Nat.le_of_ble_eq_true rfl⟩) (wk_preV hw (by omega) ot71 rfl) rfl rfl hl.1 rfl (lv_room (Nat.le_of_ble_eq_true rfl)) dX3_done_68 ⟨Nat.le_refl _, Nat.le_refl _⟩) (fun r72 en74 H locs hp73 hw => ?_)
            obtain ⟨hr1, hM4, hfr4⟩ := hp73
            obtain ⟨ot75, ⟨hFt75, mFt75, tFt75, rFt75, a1t75, a2t75, a3t75, a4t75, hRt75⟩, ⟨oht75, omt75, ott75, orrt75, b1t75, b2t75, b3t75, b4t75, hOt75⟩, ⟨wFt75, sFt75, kFt75, aFt75, fFt75, xFt75, c1t75, c2t75, c3t75, c4t75, c5t75, c6t75, hPlt75⟩, ⟨gFt75, e1t75, hTt75⟩⟩ := id hM4
            refine wr_put (ci := 4) (v := .int r72) (ty := .int) (C := RX3) (T := TX3) (N := 21) hx hb hts iRX3 tyX3 tyX3_ok nmX3 hown hw 42 (by omega) ot75 rfl 19 (by decide) (hts (.fieldLink RX3 104 "LibraryDeskModel" "why" "I") (by decide +kernel)) (fun _ h9 => h9) rfl (by decide +kernel) rfl rfl (Nat.le_of_ble_eq_true rfl) dX3_done_71 (fun en77 H locs hE76 hw => ?_)
            have he78 : en77 42 = .inr (4, [.int th, .ref (ad 43), .ref (ad 44), .ref (ad 45), .ref (ad 46), .int (nI (aCn ((aDo (pl c1) i z a Zi xi).2.1))), .ref (ad 47), .ref (ad 48), .ref (ad 49), .ref (ad 50), .int (nI (aCn A)), .ref (ad 51), .ref (ad 52), .ref (ad 53), .ref (ad 54), .ref (ad 55), .ref (ad 56), .ref (ad 57), .long ((aDo (pl c1) i z a Zi xi).2.2), .int r72, .int (nI i)]) := w_self hE76
            have he79 : en77 43 = .inl (q.2.2.1, 328, .inl hFt75) := w_ne hE76 (by omega) a1t75
            have he80 : en77 44 = .inl (q.1, 8, .inl mFt75) := w_ne hE76 (by omega) a2t75
            have he81 : en77 45 = .inl (q.2.1, 8, .inr (.inl tFt75)) := w_ne hE76 (by omega) a3t75
            have he82 : en77 46 = .inl (q.2.1, 20, .inr (.inl rFt75)) := w_ne hE76 (by omega) a4t75
            have he83 : en77 47 = .inl (q.2.2.1, 328, .inl oht75) := w_ne hE76 (by omega) b1t75
            have he84 : en77 48 = .inl (q.1, 8, .inl omt75) := w_ne hE76 (by omega) b2t75
            have he85 : en77 49 = .inl (q.2.1, 8, .inr (.inl ott75)) := w_ne hE76 (by omega) b3t75
            have he86 : en77 50 = .inl (q.2.1, 20, .inr (.inl orrt75)) := w_ne hE76 (by omega) b4t75
            have he87 : en77 51 = .inl (q.1, 10, .inl wFt75) := w_ne hE76 (by omega) c1t75
            have he88 : en77 52 = .inl (q.1, 60, .inl sFt75) := w_ne hE76 (by omega) c2t75
            have he89 : en77 53 = .inl (q.1, 60, .inl kFt75) := w_ne hE76 (by omega) c3t75
            have he90 : en77 54 = .inl (q.1, 10, .inl aFt75) := w_ne hE76 (by omega) c4t75
            have he91 : en77 55 = .inl (q.1, 10, .inl fFt75) := w_ne hE76 (by omega) c5t75
            have he92 : en77 56 = .inl (q.1, 10, .inl xFt75) := w_ne hE76 (by omega) c6t75
            have he93 : en77 57 = .inl (q.1, 7, .inl gFt75) := w_ne hE76 (by omega) e1t75
            refine lv_iinc (v := nI (i + 1)) (lv' := [(5, .int (nI (i + 1))), (0, .ref (ad 42)), (1, .int (nI c1)), (2, .int z), (3, .long a)]) hx hb dX3_done_74 hl (k := 0) rfl (nI_1 i) (by decide) rfl (fun ls hl => ?_)
            refine lv_goto (tgt := 17) hx hb dX3_done_77 (by decide) ?_
            have hM5 : ModC q ad en77 th (aDo (pl c1) i z a Zi xi).2.1 A pl cs (aDo (pl c1) i z a Zi xi).2.2 r72 (nI i) := ⟨he78, ⟨_, _, _, _, he79, he80, he81, he82, hRt75⟩, ⟨_, _, _, _, he83, he84, he85, he86, hOt75⟩, ⟨_, _, _, _, _, _, he87, he88, he89, he90, he91, he92, hPlt75⟩, ⟨_, he93, hTt75⟩⟩
            by_cases hz : r72 = 0
            · have hz2 : (aDo (pl c1) i z a Zi xi).1 = 0 := hr1.symm.trans hz
              rw [aRun_s (by exact htold) hz2] at hres
              rw [hz] at hM5
              exact ih (i + 1) (by omega) _ _ _ _ (Aok_do hokZ) hM5 hres (fun j hj => (w_fr hE76 (by omega)).trans ((hfr4 j hj).trans ((w_fr hE53 (by omega)).trans (hfr j hj)))) _ _ hw ls (lv_sub hl [0, 1, 2, 3, 4] rfl)
            · have hz2 : ¬ (aDo (pl c1) i z a Zi xi).1 = 0 := fun h => hz (hr1.trans h)
              rw [aRun_f (by exact htold) hz2, ← hr1] at hres
              exact keyF (i + 1) _ _ _ _ i (Aok_do hokZ) hM5 hz hres.symm (fun j hj => (w_fr hE76 (by omega)).trans ((hfr4 j hj).trans ((w_fr hE53 (by omega)).trans (hfr j hj)))) _ _ hw ls (lv_sub hl [0, 1, 2, 3, 4] rfl)
          · have htold := c50
            have htw : ¬ (pl c1).2.2.2.2.2 = 0 := told_ne hpk htold (by omega)
            have hres2 : (tR (pl c1) z a A) = ((pl c1).2.2.2.2.2, i, Zi, xi) := by rw [← hres]; exact aRun_t htold
            refine lv_aload_n hx hb dX3_done_53 rfl (lv_at hl 1 rfl) ?_
            refine wr_get (ci := 4) (C := RX3) (T := TX3) (N := 21) hx hb hts iRX3 hown hw 42 (by omega) ot71 rfl 16 (by decide) (hts (.fieldLink RX3 51 "LibraryDeskModel" "failsWith" "[I") (by decide +kernel)) (fun _ h9 => h9) rfl dX3_done_54 ?_
            refine lv_iload_n hx hb dX3_done_57 rfl (lv_at hl 2 rfl) ?_
            refine wr_iald (v := (pl c1).2.2.2.2.2) hx hb hw 56 (by omega) 0 c6t71 rfl (vp_in_nI (by omega) (by decide)) (by rw [(nI_clamp (by omega))]; exact (hPlt71 c1 hc).2.2.2.1) dX3_done_58 ?_
            refine lv_goto (tgt := 71) hx hb dX3_done_59 (by decide) ?_
            refine wr_put (ci := 4) (v := .int ((pl c1).2.2.2.2.2)) (ty := .int) (C := RX3) (T := TX3) (N := 21) hx hb hts iRX3 tyX3 tyX3_ok nmX3 hown hw 42 (by omega) ot71 rfl 19 (by decide) (hts (.fieldLink RX3 104 "LibraryDeskModel" "why" "I") (by decide +kernel)) (fun _ h9 => h9) rfl (by decide +kernel) rfl rfl (Nat.le_of_ble_eq_true rfl) dX3_done_71 (fun en95 H locs hE94 hw => ?_)
            have he96 : en95 42 = .inr (4, [.int th, .ref (ad 43), .ref (ad 44), .ref (ad 45), .ref (ad 46), .int (nI (aCn Zi)), .ref (ad 47), .ref (ad 48), .ref (ad 49), .ref (ad 50), .int (nI (aCn A)), .ref (ad 51), .ref (ad 52), .ref (ad 53), .ref (ad 54), .ref (ad 55), .ref (ad 56), .ref (ad 57), .long xi, .int ((pl c1).2.2.2.2.2), .int (nI i)]) := w_self hE94
            have he97 : en95 43 = .inl (q.2.2.1, 328, .inl hFt71) := w_ne hE94 (by omega) a1t71
            have he98 : en95 44 = .inl (q.1, 8, .inl mFt71) := w_ne hE94 (by omega) a2t71
            have he99 : en95 45 = .inl (q.2.1, 8, .inr (.inl tFt71)) := w_ne hE94 (by omega) a3t71
            have he100 : en95 46 = .inl (q.2.1, 20, .inr (.inl rFt71)) := w_ne hE94 (by omega) a4t71
            have he101 : en95 47 = .inl (q.2.2.1, 328, .inl oht71) := w_ne hE94 (by omega) b1t71
            have he102 : en95 48 = .inl (q.1, 8, .inl omt71) := w_ne hE94 (by omega) b2t71
            have he103 : en95 49 = .inl (q.2.1, 8, .inr (.inl ott71)) := w_ne hE94 (by omega) b3t71
            have he104 : en95 50 = .inl (q.2.1, 20, .inr (.inl orrt71)) := w_ne hE94 (by omega) b4t71
            have he105 : en95 51 = .inl (q.1, 10, .inl wFt71) := w_ne hE94 (by omega) c1t71
            have he106 : en95 52 = .inl (q.1, 60, .inl sFt71) := w_ne hE94 (by omega) c2t71
            have he107 : en95 53 = .inl (q.1, 60, .inl kFt71) := w_ne hE94 (by omega) c3t71
            have he108 : en95 54 = .inl (q.1, 10, .inl aFt71) := w_ne hE94 (by omega) c4t71
            have he109 : en95 55 = .inl (q.1, 10, .inl fFt71) := w_ne hE94 (by omega) c5t71
            have he110 : en95 56 = .inl (q.1, 10, .inl xFt71) := w_ne hE94 (by omega) c6t71
            have he111 : en95 57 = .inl (q.1, 7, .inl gFt71) := w_ne hE94 (by omega) e1t71
            refine lv_iinc (v := nI (i + 1)) (lv' := [(5, .int (nI (i + 1))), (0, .ref (ad 42)), (1, .int (nI c1)), (2, .int z), (3, .long a)]) hx hb dX3_done_74 hl (k := 0) rfl (nI_1 i) (by decide) rfl (fun ls hl => ?_)
            refine lv_goto (tgt := 17) hx hb dX3_done_77 (by decide) ?_
            exact keyF (i + 1) _ Zi xi _ i hokZ ⟨he96, ⟨_, _, _, _, he97, he98, he99, he100, hRt71⟩, ⟨_, _, _, _, he101, he102, he103, he104, hOt71⟩, ⟨_, _, _, _, _, _, he105, he106, he107, he108, he109, he110, hPlt71⟩, ⟨_, he111, hTt71⟩⟩ htw hres2 (fun j hj => (w_fr hE94 (by omega)).trans ((w_fr hE53 (by omega)).trans (hfr j hj))) _ _ hw ls (lv_sub hl [0, 1, 2, 3, 4] rfl)
  exact key _ 0 (by omega) _ A a _ hok hM2 rfl (fun j hj => (w_fr hE24 (by omega)).trans ((w_fr hE6 (by omega)).trans (hfr1 j hj))) _ _ hw ls (lv_sub hl [0, 1, 2, 3, 4] rfl)
