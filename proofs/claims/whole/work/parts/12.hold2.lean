theorem cpy_lo {α : Type} (f g : Nat → α) {n j : Nat} (h : j < n) : va_cpy f g 0 0 n j = f j := by
  rw [pk_cpy_in (Nat.zero_le _) (by omega)]
  congr 1
  omega
theorem RC_copy {mf mz : Nat → Int32} {hf tf vf hz tz vz : Nat → Int64} {A : Ast} (h : RC mf hf tf vf A) (hc : aCn A ≤ 20) : RC (va_cpy mf mz 0 0 8) (va_cpy hf hz 0 0 8) (va_cpy tf tz 0 0 8) (va_cpy vf vz 0 0 20) A := by
  refine ⟨fun i hi => ?_, fun i hi => ?_⟩
  · rw [cpy_lo _ _ hi, cpy_lo _ _ hi, cpy_lo _ _ hi]
    exact h.1 i hi
  · rw [cpy_lo _ _ (by omega)]
    exact h.2 i hi
set_option maxHeartbeats 4000000 in
set_option maxRecDepth 100000 in
theorem kX0_moveFirstValueTo (l : Launch) (dC : Nat → ClassId) (dI : Nat → Nat → Nat) (q : ClassId × ClassId × ClassId × ClassId) (ad : Nat → Nat) (en : Nat → va_E) (n sz : Nat) (b : Nat) (hbn : b + 4 < n) (A : Ast) (hok : Aok A) (hH : HoldAt q ad en b A) (k : Nat) (hk : k < 8) :
    Met l yX0_moveFirstValueTo wsX0_moveFirstValueTo ({ frames := 0, cells := 0, slots := 0, locals := 0 }) (wPc (dC, dI) vwCl (wT q) ad en n sz [.ref (ad b), .int (nI k)]) (va_Qi (fun (r : Int32) (en' : Nat → va_E) => r = (if 0 < aCn A then 1 else 0) ∧ HoldAt q ad en' b (aTake k A) ∧ ∀ j, (j < b ∨ b + 5 ≤ j) → en' j = en j) (wB (dC, dI) vwCl (wT q) ad n (wA ad n sz)) (wA ad n sz)) 0 0 (wA ad n sz) := by
  refine Met.ofW (cc := cX0_moveFirstValueTo) (maxL := 3) (ret := (some .boolean)) (by decide) rfl ?_
  intro p e s m args below meth c s₁ B hml hv
  obtain ⟨rfl, hsz, hP, hK, hD0, hE0⟩ := hv
  have hx := B.exec
  have hb := B.bytes
  have hr := B.returns
  have hts := atoms_spec (ws := wsX0_moveFirstValueTo) B.pre
  have hown : s.vm.findClass RX0 = some m.cls := findClass_of_methodNamed B.named
  have hlocks := B.notSynchronized
  have iRX0 : ∀ w ∈ u_ws RX0 TX0 5, w ∈ wsX0_moveFirstValueTo := by decide +kernel
  subst hsz
  have hw := wk_of hP hK hD0 hE0
  generalize wA ad n s.heap.size = AA at hw ⊢
  have hl := lv_entry ([.ref (ad b), .int (nI k)]) (n := 3) (Nat.le_of_ble_eq_true rfl)
  rw [lg_entry_eq]
  generalize (lg_sl ([.ref (ad b), .int (nI k)]) ++ List.replicate (3 - (lg_sl ([.ref (ad b), .int (nI k)])).length) Slot.unset).toArray = ls at hl ⊢
  have hl : lv_has ls 3 [(0, .ref (ad b)), (1, .int (nI k))] := hl
  obtain ⟨mf, hf, tf, vf, h0, h1, h2, h3, h4, hR⟩ := hH
  have hcn := hok.2
  refine lv_aload_n hx hb dX0_moveFirstValueTo_0 rfl (lv_at hl 0 rfl) ?_
  refine wr_get (ci := 1) (C := RX0) (T := TX0) (N := 5) hx hb hts iRX0 hown hw b (by omega) h0 rfl 4 (by decide) (hts (.fieldLink RX0 31 "LibraryDesk$Holdings" "valueCount" "I") (by decide +kernel)) (fun _ h9 => h9) rfl dX0_moveFirstValueTo_1 ?_
  refine lv_if_gt (tgt := 9) hx hb dX0_moveFirstValueTo_4 (by decide) (fun c4 => ?_) (fun c4 => ?_)
  · have hc : 0 < aCn A := (nI_ltI (a := 0) (by omega) (by omega)).mp c4
    refine lv_aload_n hx hb dX0_moveFirstValueTo_9 rfl (lv_at hl 0 rfl) ?_
    refine wr_get (ci := 1) (C := RX0) (T := TX0) (N := 5) hx hb hts iRX0 hown hw b (by omega) h0 rfl 2 (by decide) (hts (.fieldLink RX0 19 "LibraryDesk$Holdings" "tallies" "[J") (by decide +kernel)) (fun _ h9 => h9) rfl dX0_moveFirstValueTo_10 ?_
    refine lv_iload_n hx hb dX0_moveFirstValueTo_13 rfl (lv_at hl 1 rfl) ?_
    refine lv_dup2_11 hx hb dX0_moveFirstValueTo_14 rfl rfl ?_
    refine wr_lald (v := tf k) hx hb hw (b + 3) (by omega) 1 h3 rfl (vp_in_nI (by omega) (by decide)) (by rw [(nI_clamp (by omega))]) dX0_moveFirstValueTo_15 ?_
    refine lv_aload_n hx hb dX0_moveFirstValueTo_16 rfl (lv_at hl 0 rfl) ?_
    refine wr_get (ci := 1) (C := RX0) (T := TX0) (N := 5) hx hb hts iRX0 hown hw b (by omega) h0 rfl 3 (by decide) (hts (.fieldLink RX0 22 "LibraryDesk$Holdings" "values" "[J") (by decide +kernel)) (fun _ h9 => h9) rfl dX0_moveFirstValueTo_17 ?_
    refine lv_iconst (v := 0) hx hb dX0_moveFirstValueTo_20 (by decide) ?_
    refine wr_lald (v := vf 0) hx hb hw (b + 4) (by omega) 1 h4 rfl (vp_in_nI (n := 0) (by decide) (by decide)) (by rw [(show (0 : Int32).toNatClampNeg = 0 by decide)]) dX0_moveFirstValueTo_21 ?_
    refine lv_ladd hx hb dX0_moveFirstValueTo_22 ?_
    refine lv_topl (fun x1 ex1 => ?_)
    have ex1n : x1 = tf k + vf 0 := ex1.trans (rfl)
    clear ex1
    subst ex1n
    refine wr_last (j := k) hx hb hw (b + 3) (by omega) 1 h3 rfl (vp_in_nI (by omega) (by decide)) (nI_clamp (by omega)) dX0_moveFirstValueTo_23 (fun en3 H locs hE2 hw => ?_)
    have he4 : en3 b = .inr (1, [.ref (ad (b + 1)), .ref (ad (b + 2)), .ref (ad (b + 3)), .ref (ad (b + 4)), .int (nI (aCn A))]) := w_ne hE2 (by omega) h0
    have he5 : en3 (b + 1) = .inl (q.1, 8, .inl mf) := w_ne hE2 (by omega) h1
    have he6 : en3 (b + 2) = .inl (q.2.1, 8, .inr (.inl hf)) := w_ne hE2 (by omega) h2
    have he7 : en3 (b + 3) = .inl (q.2.1, 8, .inr (.inl (vp_updL tf k (tf k + vf 0)))) := w_self hE2
    have he8 : en3 (b + 4) = .inl (q.2.1, 20, .inr (.inl vf)) := w_ne hE2 (by omega) h4
    refine lv_aload_n hx hb dX0_moveFirstValueTo_24 rfl (lv_at hl 0 rfl) ?_
    refine lv_dup hx hb dX0_moveFirstValueTo_25 rfl ?_
    refine wr_get (ci := 1) (C := RX0) (T := TX0) (N := 5) hx hb hts iRX0 hown hw b (by omega) he4 rfl 4 (by decide) (hts (.fieldLink RX0 31 "LibraryDesk$Holdings" "valueCount" "I") (by decide +kernel)) (fun _ h9 => h9) rfl dX0_moveFirstValueTo_26 ?_
    refine lv_iconst (v := 1) hx hb dX0_moveFirstValueTo_29 (by decide) ?_
    refine lv_isub hx hb dX0_moveFirstValueTo_30 ?_
    refine lv_topi (fun x9 ex9 => ?_)
    have ex9n : x9 = nI (aCn A - 1) := ex9.trans (pk_sub (b := 1) (by omega))
    clear ex9
    subst ex9n
    refine wr_put (ci := 1) (v := .int (nI (aCn A - 1))) (ty := .int) (C := RX0) (T := TX0) (N := 5) hx hb hts iRX0 tyX0 tyX0_ok nmX0 hown hw b (by omega) he4 rfl 4 (by decide) (hts (.fieldLink RX0 31 "LibraryDesk$Holdings" "valueCount" "I") (by decide +kernel)) (fun _ h9 => h9) rfl (by decide +kernel) rfl rfl (Nat.le_of_ble_eq_true rfl) dX0_moveFirstValueTo_31 (fun en11 H locs hE10 hw => ?_)
    have he12 : en11 b = .inr (1, [.ref (ad (b + 1)), .ref (ad (b + 2)), .ref (ad (b + 3)), .ref (ad (b + 4)), .int (nI (aCn A - 1))]) := w_self hE10
    have he13 : en11 (b + 1) = .inl (q.1, 8, .inl mf) := w_ne hE10 (by omega) he5
    have he14 : en11 (b + 2) = .inl (q.2.1, 8, .inr (.inl hf)) := w_ne hE10 (by omega) he6
    have he15 : en11 (b + 3) = .inl (q.2.1, 8, .inr (.inl (vp_updL tf k (tf k + vf 0)))) := w_ne hE10 (by omega) he7
    have he16 : en11 (b + 4) = .inl (q.2.1, 20, .inr (.inl vf)) := w_ne hE10 (by omega) he8
    refine lv_iconst (v := 0) hx hb dX0_moveFirstValueTo_34 (by decide) ?_
    refine lv_istore_n (lv' := [(2, .int 0), (0, .ref (ad b)), (1, .int (nI k))]) hx hb dX0_moveFirstValueTo_35 rfl hl (by decide) rfl (fun ls hl => ?_)
    have key : ∀ (d i : Nat), i + d = aCn A - 1 → ∀ (wf : Nat → Int64) (en1 : Nat → va_E), (∀ j, j < i → wf j = vf (j + 1)) → (∀ j, i ≤ j → wf j = vf j) → en1 b = .inr (1, [.ref (ad (b + 1)), .ref (ad (b + 2)), .ref (ad (b + 3)), .ref (ad (b + 4)), .int (nI (aCn A - 1))]) → en1 (b + 1) = .inl (q.1, 8, .inl mf) → en1 (b + 2) = .inl (q.2.1, 8, .inr (.inl hf)) → en1 (b + 3) = .inl (q.2.1, 8, .inr (.inl (vp_updL tf k (tf k + vf 0)))) → en1 (b + 4) = .inl (q.2.1, 20, .inr (.inl wf)) → (∀ j, (j < b ∨ b + 5 ≤ j) → en1 j = en j) → ∀ (H : Heap) (locs : List Loc), wk (dC, dI) vwCl (wT q) ad en1 n AA s H locs → ∀ ls : Array Slot, lv_has ls 3 [(2, .int (nI i)), (0, .ref (ad b)), (1, .int (nI k))] → W p l e (headSpec wsX0_moveFirstValueTo ({ frames := 0, cells := 0, slots := 0, locals := 0 })).room s m ([.ref (ad b), .int (nI k)].toArray) below meth c H locs 0 0 (MQ below (va_Qi (fun (r : Int32) (en' : Nat → va_E) => r = (if 0 < aCn A then 1 else 0) ∧ HoldAt q ad en' b (aTake k A) ∧ ∀ j, (j < b ∨ b + 5 ≤ j) → en' j = en j) (wB (dC, dI) vwCl (wT q) ad n AA) AA) ([.ref (ad b), .int (nI k)].toArray) s 0 0 AA) (F0 m 36 ls []) := by
      intro d
      induction d with
      | zero =>
        intro i hi wf en1 hw1 hw2 g0 g1 g2 g3 g4 hfr H locs hw ls hl
        refine lv_iload_n hx hb dX0_moveFirstValueTo_36 rfl (lv_at hl 0 rfl) ?_
        refine lv_aload_n hx hb dX0_moveFirstValueTo_37 rfl (lv_at hl 1 rfl) ?_
        refine wr_get (ci := 1) (C := RX0) (T := TX0) (N := 5) hx hb hts iRX0 hown hw b (by omega) g0 rfl 4 (by decide) (hts (.fieldLink RX0 31 "LibraryDesk$Holdings" "valueCount" "I") (by decide +kernel)) (fun _ h9 => h9) rfl dX0_moveFirstValueTo_38 ?_
        refine lv_icmp_ge (tgt := 64) hx hb dX0_moveFirstValueTo_41 (by decide) (fun c41 => ?_) (fun c41 => ?_)
        · refine lv_iconst (v := 1) hx hb dX0_moveFirstValueTo_64 (by decide) ?_
          refine we_z hx hb hr hlocks hw (Or.inr rfl) ?_ dX0_moveFirstValueTo_65
          refine ⟨by rw [if_pos hc], ⟨_, _, _, _, ?_, g1, g2, g3, g4, RC_take hR hc hk (fun j hj => hw1 j (by omega))⟩, fun j hj => hfr j hj⟩
          rw [aCn_take hc]
          exact g0
        · exact absurd (nI_le (by omega) (by omega)) c41
      | succ d ih =>
        intro i hi wf en1 hw1 hw2 g0 g1 g2 g3 g4 hfr H locs hw ls hl
        refine lv_iload_n hx hb dX0_moveFirstValueTo_36 rfl (lv_at hl 0 rfl) ?_
        refine lv_aload_n hx hb dX0_moveFirstValueTo_37 rfl (lv_at hl 1 rfl) ?_
        refine wr_get (ci := 1) (C := RX0) (T := TX0) (N := 5) hx hb hts iRX0 hown hw b (by omega) g0 rfl 4 (by decide) (hts (.fieldLink RX0 31 "LibraryDesk$Holdings" "valueCount" "I") (by decide +kernel)) (fun _ h9 => h9) rfl dX0_moveFirstValueTo_38 ?_
        refine lv_icmp_ge (tgt := 64) hx hb dX0_moveFirstValueTo_41 (by decide) (fun c41 => ?_) (fun c41 => ?_)
        · exact absurd ((nI_leI (by omega) (by omega)).mp c41) (by omega)
        · refine lv_aload_n hx hb dX0_moveFirstValueTo_44 rfl (lv_at hl 1 rfl) ?_
          refine wr_get (ci := 1) (C := RX0) (T := TX0) (N := 5) hx hb hts iRX0 hown hw b (by omega) g0 rfl 3 (by decide) (hts (.fieldLink RX0 22 "LibraryDesk$Holdings" "values" "[J") (by decide +kernel)) (fun _ h9 => h9) rfl dX0_moveFirstValueTo_45 ?_
          refine lv_iload_n hx hb dX0_moveFirstValueTo_48 rfl (lv_at hl 0 rfl) ?_
          refine lv_aload_n hx hb dX0_moveFirstValueTo_49 rfl (lv_at hl 1 rfl) ?_
          refine wr_get (ci := 1) (C := RX0) (T := TX0) (N := 5) hx hb hts iRX0 hown hw b (by omega) g0 rfl 3 (by decide) (hts (.fieldLink RX0 22 "LibraryDesk$Holdings" "values" "[J") (by decide +kernel)) (fun _ h9 => h9) rfl dX0_moveFirstValueTo_50 ?_
          refine lv_iload_n hx hb dX0_moveFirstValueTo_53 rfl (lv_at hl 0 rfl) ?_
          refine lv_iconst (v := 1) hx hb dX0_moveFirstValueTo_54 (by decide) ?_
          refine lv_iadd hx hb dX0_moveFirstValueTo_55 ?_
          refine lv_topi (fun x17 ex17 => ?_)
          have ex17n : x17 = nI (i + 1) := ex17.trans (nI_1 i)
          clear ex17
          subst ex17n
          refine wr_lald (v := wf ((i + 1))) hx hb hw (b + 4) (by omega) 1 g4 rfl (vp_in_nI (by omega) (by decide)) (by rw [(nI_clamp (by omega))]) dX0_moveFirstValueTo_56 ?_
          refine wr_last (j := i) hx hb hw (b + 4) (by omega) 1 g4 rfl (vp_in_nI (by omega) (by decide)) (nI_clamp (by omega)) dX0_moveFirstValueTo_57 (fun en19 H locs hE18 hw => ?_)
          have he20 : en19 b = .inr (1, [.ref (ad (b + 1)), .ref (ad (b + 2)), .ref (ad (b + 3)), .ref (ad (b + 4)), .int (nI (aCn A - 1))]) := w_ne hE18 (by omega) g0
          have he21 : en19 (b + 1) = .inl (q.1, 8, .inl mf) := w_ne hE18 (by omega) g1
          have he22 : en19 (b + 2) = .inl (q.2.1, 8, .inr (.inl hf)) := w_ne hE18 (by omega) g2
          have he23 : en19 (b + 3) = .inl (q.2.1, 8, .inr (.inl (vp_updL tf k (tf k + vf 0)))) := w_ne hE18 (by omega) g3
          have he24 : en19 (b + 4) = .inl (q.2.1, 20, .inr (.inl (vp_updL wf i (wf ((i + 1)))))) := w_self hE18
          refine lv_iinc (v := nI (i + 1)) (lv' := [(2, .int (nI (i + 1))), (0, .ref (ad b)), (1, .int (nI k))]) hx hb dX0_moveFirstValueTo_58 hl (k := 0) rfl (nI_1 i) (by decide) rfl (fun ls hl => ?_)
          refine lv_goto (tgt := 36) hx hb dX0_moveFirstValueTo_61 (by decide) ?_
          refine ih (i + 1) (by omega) _ _ (fun j hj => ?_) (fun j hj => ?_) he20 he21 he22 he23 he24 (fun j hj => (w_fr hE18 (by omega)).trans (hfr j hj)) _ _ hw ls (lv_sub hl [0, 1, 2] rfl)
          · by_cases e : j = i
            · rw [e, pk_uLs]; exact hw2 _ (by omega)
            · rw [pk_uLn e]; exact hw1 j (by omega)
          · rw [pk_uLn (by omega)]; exact hw2 j (by omega)
    exact key (aCn A - 1) 0 (by omega) vf _ (fun j h => absurd h (Nat.not_lt_zero j)) (fun j _ => rfl) he12 he13 he14 he15 he16 (fun j hj => (w_fr hE10 (by omega)).trans (w_fr hE2 (by omega))) _ _ hw ls (lv_sub hl [0, 1, 2] rfl)
  · have hc : ¬ 0 < aCn A := fun h => c4 ((nI_ltI (a := 0) (by omega) (by omega)).mpr h)
    refine lv_iconst (v := 0) hx hb dX0_moveFirstValueTo_7 (by decide) ?_
    refine we_z hx hb hr hlocks hw (Or.inl rfl) ?_ dX0_moveFirstValueTo_8
    refine ⟨by rw [if_neg hc], ?_, fun j hj => rfl⟩
    rw [aTake_no hc]
    exact ⟨mf, hf, tf, vf, h0, h1, h2, h3, h4, hR⟩

set_option maxHeartbeats 4000000 in
set_option maxRecDepth 100000 in
theorem kX0_copyFrom (l : Launch) (dC : Nat → ClassId) (dI : Nat → Nat → Nat) (q : ClassId × ClassId × ClassId × ClassId) (ad : Nat → Nat) (en : Nat → va_E) (n sz : Nat) (b b2 : Nat) (hbn : b + 4 < n) (hbn2 : b2 + 4 < n) (hap : b + 5 ≤ b2 ∨ b2 + 5 ≤ b) (Z A : Ast) (hok : Aok A) (hZ : HoldAt q ad en b Z) (hH : HoldAt q ad en b2 A) :
    Met l yX0_copyFrom wsX0_copyFrom ({ frames := 1, cells := 0, slots := 0, locals := 40 }) (wPc (dC, dI) vwCl (wT q) ad en n sz [.ref (ad b), .ref (ad b2)]) (va_Qv (fun (en' : Nat → va_E) => HoldAt q ad en' b A ∧ ∀ j, (j < b ∨ b + 5 ≤ j) → en' j = en j) (wB (dC, dI) vwCl (wT q) ad n (wA ad n sz)) (wA ad n sz)) 0 0 (wA ad n sz) := by
  refine Met.ofW (cc := cX0_copyFrom) (maxL := 2) (ret := none) (by decide) rfl ?_
  intro p e s m args below meth c s₁ B hml hv
  obtain ⟨rfl, hsz, hP, hK, hD0, hE0⟩ := hv
  have hx := B.exec
  have hb := B.bytes
  have hr := B.returns
  have hts := atoms_spec (ws := wsX0_copyFrom) B.pre
  have hown : s.vm.findClass RX0 = some m.cls := findClass_of_methodNamed B.named
  have hlocks := B.notSynchronized
  have iRX0 : ∀ w ∈ u_ws RX0 TX0 5, w ∈ wsX0_copyFrom := by decide +kernel
  subst hsz
  have hw := wk_of hP hK hD0 hE0
  generalize wA ad n s.heap.size = AA at hw ⊢
  have hl := lv_entry ([.ref (ad b), .ref (ad b2)]) (n := 2) (Nat.le_of_ble_eq_true rfl)
  rw [lg_entry_eq]
  generalize (lg_sl ([.ref (ad b), .ref (ad b2)]) ++ List.replicate (2 - (lg_sl ([.ref (ad b), .ref (ad b2)])).length) Slot.unset).toArray = ls at hl ⊢
  have hl : lv_has ls 2 [(0, .ref (ad b)), (1, .ref (ad b2))] := hl
  obtain ⟨mz, hz, tz, vz, h0, h1, h2, h3, h4, -⟩ := hZ
  obtain ⟨mf, hf, tf, vf, g0, g1, g2, g3, g4, hR⟩ := hH
  have hcn := hok.2
  refine lv_aload_n hx hb dX0_copyFrom_0 rfl (lv_at hl 1 rfl) ?_
  refine wr_get (ci := 1) (C := RX0) (T := TX0) (N := 5) hx hb hts iRX0 hown hw b2 (by omega) g0 rfl 0 (by decide) (hts (.fieldLink RX0 9 "LibraryDesk$Holdings" "made" "[I") (by decide +kernel)) (fun _ h9 => h9) rfl dX0_copyFrom_1 ?_
  refine lv_iconst (v := 0) hx hb dX0_copyFrom_4 (by decide) ?_
  refine lv_aload_n hx hb dX0_copyFrom_5 rfl (lv_at hl 0 rfl) ?_
  refine wr_get (ci := 1) (C := RX0) (T := TX0) (N := 5) hx hb hts iRX0 hown hw b (by omega) h0 rfl 0 (by decide) (hts (.fieldLink RX0 9 "LibraryDesk$Holdings" "made" "[I") (by decide +kernel)) (fun _ h9 => h9) rfl dX0_copyFrom_6 ?_
  refine lv_iconst (v := 0) hx hb dX0_copyFrom_9 (by decide) ?_
  refine lv_bipush (v := 8) hx hb dX0_copyFrom_10 (by decide) ?_
  refine wr_copyi (N := 8) hx hb (by rw [hml]; exact hl.1.symm) hown (hts (.methodLink RX0 25 arraycopyName) (by decide +kernel)) (hts (.native arraycopyName) (by decide +kernel)) (hts (.static arraycopyName) (by decide +kernel)) (hts (.initialized "java/lang/System") (by decide +kernel)) hw (b2 + 1) (by omega) (b + 1) (by omega) 0 g1 h1 rfl (by decide) (by decide) (by decide) (Nat.le_of_ble_eq_true rfl) (by decide +kernel) dX0_copyFrom_12 (fun en2 H locs hE1 hw => ?_)
  have he3 : en2 b = .inr (1, [.ref (ad (b + 1)), .ref (ad (b + 2)), .ref (ad (b + 3)), .ref (ad (b + 4)), .int (nI (aCn Z))]) := w_ne hE1 (by omega) h0
  have he4 : en2 (b + 1) = .inl (q.1, 8, .inl (va_cpy mf mz 0 0 8)) := w_self hE1
  have he5 : en2 (b + 2) = .inl (q.2.1, 8, .inr (.inl hz)) := w_ne hE1 (by omega) h2
  have he6 : en2 (b + 3) = .inl (q.2.1, 8, .inr (.inl tz)) := w_ne hE1 (by omega) h3
  have he7 : en2 (b + 4) = .inl (q.2.1, 20, .inr (.inl vz)) := w_ne hE1 (by omega) h4
  have he8 : en2 b2 = .inr (1, [.ref (ad (b2 + 1)), .ref (ad (b2 + 2)), .ref (ad (b2 + 3)), .ref (ad (b2 + 4)), .int (nI (aCn A))]) := w_ne hE1 (by omega) g0
  have he9 : en2 (b2 + 1) = .inl (q.1, 8, .inl mf) := w_ne hE1 (by omega) g1
  have he10 : en2 (b2 + 2) = .inl (q.2.1, 8, .inr (.inl hf)) := w_ne hE1 (by omega) g2
  have he11 : en2 (b2 + 3) = .inl (q.2.1, 8, .inr (.inl tf)) := w_ne hE1 (by omega) g3
  have he12 : en2 (b2 + 4) = .inl (q.2.1, 20, .inr (.inl vf)) := w_ne hE1 (by omega) g4
  refine lv_aload_n hx hb dX0_copyFrom_15 rfl (lv_at hl 1 rfl) ?_
  refine wr_get (ci := 1) (C := RX0) (T := TX0) (N := 5) hx hb hts iRX0 hown hw b2 (by omega) he8 rfl 1 (by decide) (hts (.fieldLink RX0 15 "LibraryDesk$Holdings" "hereBits" "[J") (by decide +kernel)) (fun _ h9 => h9) rfl dX0_copyFrom_16 ?_
  refine lv_iconst (v := 0) hx hb dX0_copyFrom_19 (by decide) ?_
  refine lv_aload_n hx hb dX0_copyFrom_20 rfl (lv_at hl 0 rfl) ?_
  refine wr_get (ci := 1) (C := RX0) (T := TX0) (N := 5) hx hb hts iRX0 hown hw b (by omega) he3 rfl 1 (by decide) (hts (.fieldLink RX0 15 "LibraryDesk$Holdings" "hereBits" "[J") (by decide +kernel)) (fun _ h9 => h9) rfl dX0_copyFrom_21 ?_
  refine lv_iconst (v := 0) hx hb dX0_copyFrom_24 (by decide) ?_
  refine lv_bipush (v := 8) hx hb dX0_copyFrom_25 (by decide) ?_
  refine wr_copyl (N := 8) hx hb (by rw [hml]; exact hl.1.symm) hown (hts (.methodLink RX0 25 arraycopyName) (by decide +kernel)) (hts (.native arraycopyName) (by decide +kernel)) (hts (.static arraycopyName) (by decide +kernel)) (hts (.initialized "java/lang/System") (by decide +kernel)) hw (b2 + 2) (by omega) (b + 2) (by omega) 1 he10 he5 rfl (by decide) (by decide) (by decide) (Nat.le_of_ble_eq_true rfl) (by decide +kernel) dX0_copyFrom_27 (fun en14 H locs hE13 hw => ?_)
  have he15 : en14 b = .inr (1, [.ref (ad (b + 1)), .ref (ad (b + 2)), .ref (ad (b + 3)), .ref (ad (b + 4)), .int (nI (aCn Z))]) := w_ne hE13 (by omega) he3
  have he16 : en14 (b + 1) = .inl (q.1, 8, .inl (va_cpy mf mz 0 0 8)) := w_ne hE13 (by omega) he4
  have he17 : en14 (b + 2) = .inl (q.2.1, 8, .inr (.inl (va_cpy hf hz 0 0 8))) := w_self hE13
  have he18 : en14 (b + 3) = .inl (q.2.1, 8, .inr (.inl tz)) := w_ne hE13 (by omega) he6
  have he19 : en14 (b + 4) = .inl (q.2.1, 20, .inr (.inl vz)) := w_ne hE13 (by omega) he7
  have he20 : en14 b2 = .inr (1, [.ref (ad (b2 + 1)), .ref (ad (b2 + 2)), .ref (ad (b2 + 3)), .ref (ad (b2 + 4)), .int (nI (aCn A))]) := w_ne hE13 (by omega) he8
  have he21 : en14 (b2 + 1) = .inl (q.1, 8, .inl mf) := w_ne hE13 (by omega) he9
  have he22 : en14 (b2 + 2) = .inl (q.2.1, 8, .inr (.inl hf)) := w_ne hE13 (by omega) he10
  have he23 : en14 (b2 + 3) = .inl (q.2.1, 8, .inr (.inl tf)) := w_ne hE13 (by omega) he11
  have he24 : en14 (b2 + 4) = .inl (q.2.1, 20, .inr (.inl vf)) := w_ne hE13 (by omega) he12
  refine lv_aload_n hx hb dX0_copyFrom_30 rfl (lv_at hl 1 rfl) ?_
  refine wr_get (ci := 1) (C := RX0) (T := TX0) (N := 5) hx hb hts iRX0 hown hw b2 (by omega) he20 rfl 2 (by decide) (hts (.fieldLink RX0 19 "LibraryDesk$Holdings" "tallies" "[J") (by decide +kernel)) (fun _ h9 => h9) rfl dX0_copyFrom_31 ?_
  refine lv_iconst (v := 0) hx hb dX0_copyFrom_34 (by decide) ?_
  refine lv_aload_n hx hb dX0_copyFrom_35 rfl (lv_at hl 0 rfl) ?_
  refine wr_get (ci := 1) (C := RX0) (T := TX0) (N := 5) hx hb hts iRX0 hown hw b (by omega) he15 rfl 2 (by decide) (hts (.fieldLink RX0 19 "LibraryDesk$Holdings" "tallies" "[J") (by decide +kernel)) (fun _ h9 => h9) rfl dX0_copyFrom_36 ?_
  refine lv_iconst (v := 0) hx hb dX0_copyFrom_39 (by decide) ?_
  refine lv_bipush (v := 8) hx hb dX0_copyFrom_40 (by decide) ?_
  refine wr_copyl (N := 8) hx hb (by rw [hml]; exact hl.1.symm) hown (hts (.methodLink RX0 25 arraycopyName) (by decide +kernel)) (hts (.native arraycopyName) (by decide +kernel)) (hts (.static arraycopyName) (by decide +kernel)) (hts (.initialized "java/lang/System") (by decide +kernel)) hw (b2 + 3) (by omega) (b + 3) (by omega) 1 he23 he18 rfl (by decide) (by decide) (by decide) (Nat.le_of_ble_eq_true rfl) (by decide +kernel) dX0_copyFrom_42 (fun en26 H locs hE25 hw => ?_)
  have he27 : en26 b = .inr (1, [.ref (ad (b + 1)), .ref (ad (b + 2)), .ref (ad (b + 3)), .ref (ad (b + 4)), .int (nI (aCn Z))]) := w_ne hE25 (by omega) he15
  have he28 : en26 (b + 1) = .inl (q.1, 8, .inl (va_cpy mf mz 0 0 8)) := w_ne hE25 (by omega) he16
  have he29 : en26 (b + 2) = .inl (q.2.1, 8, .inr (.inl (va_cpy hf hz 0 0 8))) := w_ne hE25 (by omega) he17
  have he30 : en26 (b + 3) = .inl (q.2.1, 8, .inr (.inl (va_cpy tf tz 0 0 8))) := w_self hE25
  have he31 : en26 (b + 4) = .inl (q.2.1, 20, .inr (.inl vz)) := w_ne hE25 (by omega) he19
  have he32 : en26 b2 = .inr (1, [.ref (ad (b2 + 1)), .ref (ad (b2 + 2)), .ref (ad (b2 + 3)), .ref (ad (b2 + 4)), .int (nI (aCn A))]) := w_ne hE25 (by omega) he20
  have he33 : en26 (b2 + 1) = .inl (q.1, 8, .inl mf) := w_ne hE25 (by omega) he21
  have he34 : en26 (b2 + 2) = .inl (q.2.1, 8, .inr (.inl hf)) := w_ne hE25 (by omega) he22
  have he35 : en26 (b2 + 3) = .inl (q.2.1, 8, .inr (.inl tf)) := w_ne hE25 (by omega) he23
  have he36 : en26 (b2 + 4) = .inl (q.2.1, 20, .inr (.inl vf)) := w_ne hE25 (by omega) he24
  refine lv_aload_n hx hb dX0_copyFrom_45 rfl (lv_at hl 1 rfl) ?_
  refine wr_get (ci := 1) (C := RX0) (T := TX0) (N := 5) hx hb hts iRX0 hown hw b2 (by omega) he32 rfl 3 (by decide) (hts (.fieldLink RX0 22 "LibraryDesk$Holdings" "values" "[J") (by decide +kernel)) (fun _ h9 => h9) rfl dX0_copyFrom_46 ?_
  refine lv_iconst (v := 0) hx hb dX0_copyFrom_49 (by decide) ?_
  refine lv_aload_n hx hb dX0_copyFrom_50 rfl (lv_at hl 0 rfl) ?_
  refine wr_get (ci := 1) (C := RX0) (T := TX0) (N := 5) hx hb hts iRX0 hown hw b (by omega) he27 rfl 3 (by decide) (hts (.fieldLink RX0 22 "LibraryDesk$Holdings" "values" "[J") (by decide +kernel)) (fun _ h9 => h9) rfl dX0_copyFrom_51 ?_
  refine lv_iconst (v := 0) hx hb dX0_copyFrom_54 (by decide) ?_
  refine lv_bipush (v := 20) hx hb dX0_copyFrom_55 (by decide) ?_
  refine wr_copyl (N := 20) hx hb (by rw [hml]; exact hl.1.symm) hown (hts (.methodLink RX0 25 arraycopyName) (by decide +kernel)) (hts (.native arraycopyName) (by decide +kernel)) (hts (.static arraycopyName) (by decide +kernel)) (hts (.initialized "java/lang/System") (by decide +kernel)) hw (b2 + 4) (by omega) (b + 4) (by omega) 1 he36 he31 rfl (by decide) (by decide) (by decide) (Nat.le_of_ble_eq_true rfl) (by decide +kernel) dX0_copyFrom_57 (fun en38 H locs hE37 hw => ?_)
  have he39 : en38 b = .inr (1, [.ref (ad (b + 1)), .ref (ad (b + 2)), .ref (ad (b + 3)), .ref (ad (b + 4)), .int (nI (aCn Z))]) := w_ne hE37 (by omega) he27
  have he40 : en38 (b + 1) = .inl (q.1, 8, .inl (va_cpy mf mz 0 0 8)) := w_ne hE37 (by omega) he28
  have he41 : en38 (b + 2) = .inl (q.2.1, 8, .inr (.inl (va_cpy hf hz 0 0 8))) := w_ne hE37 (by omega) he29
  have he42 : en38 (b + 3) = .inl (q.2.1, 8, .inr (.inl (va_cpy tf tz 0 0 8))) := w_ne hE37 (by omega) he30
  have he43 : en38 (b + 4) = .inl (q.2.1, 20, .inr (.inl (va_cpy vf vz 0 0 20))) := w_self hE37
  have he44 : en38 b2 = .inr (1, [.ref (ad (b2 + 1)), .ref (ad (b2 + 2)), .ref (ad (b2 + 3)), .ref (ad (b2 + 4)), .int (nI (aCn A))]) := w_ne hE37 (by omega) he32
  have he45 : en38 (b2 + 1) = .inl (q.1, 8, .inl mf) := w_ne hE37 (by omega) he33
  have he46 : en38 (b2 + 2) = .inl (q.2.1, 8, .inr (.inl hf)) := w_ne hE37 (by omega) he34
  have he47 : en38 (b2 + 3) = .inl (q.2.1, 8, .inr (.inl tf)) := w_ne hE37 (by omega) he35
  have he48 : en38 (b2 + 4) = .inl (q.2.1, 20, .inr (.inl vf)) := w_ne hE37 (by omega) he36
  refine lv_aload_n hx hb dX0_copyFrom_60 rfl (lv_at hl 0 rfl) ?_
  refine lv_aload_n hx hb dX0_copyFrom_61 rfl (lv_at hl 1 rfl) ?_
  refine wr_get (ci := 1) (C := RX0) (T := TX0) (N := 5) hx hb hts iRX0 hown hw b2 (by omega) he44 rfl 4 (by decide) (hts (.fieldLink RX0 31 "LibraryDesk$Holdings" "valueCount" "I") (by decide +kernel)) (fun _ h9 => h9) rfl dX0_copyFrom_62 ?_
  refine wr_put (ci := 1) (v := .int (nI (aCn A))) (ty := .int) (C := RX0) (T := TX0) (N := 5) hx hb hts iRX0 tyX0 tyX0_ok nmX0 hown hw b (by omega) he39 rfl 4 (by decide) (hts (.fieldLink RX0 31 "LibraryDesk$Holdings" "valueCount" "I") (by decide +kernel)) (fun _ h9 => h9) rfl (by decide +kernel) rfl rfl (Nat.le_of_ble_eq_true rfl) dX0_copyFrom_65 (fun en50 H locs hE49 hw => ?_)
  have he51 : en50 b = .inr (1, [.ref (ad (b + 1)), .ref (ad (b + 2)), .ref (ad (b + 3)), .ref (ad (b + 4)), .int (nI (aCn A))]) := w_self hE49
  have he52 : en50 (b + 1) = .inl (q.1, 8, .inl (va_cpy mf mz 0 0 8)) := w_ne hE49 (by omega) he40
  have he53 : en50 (b + 2) = .inl (q.2.1, 8, .inr (.inl (va_cpy hf hz 0 0 8))) := w_ne hE49 (by omega) he41
  have he54 : en50 (b + 3) = .inl (q.2.1, 8, .inr (.inl (va_cpy tf tz 0 0 8))) := w_ne hE49 (by omega) he42
  have he55 : en50 (b + 4) = .inl (q.2.1, 20, .inr (.inl (va_cpy vf vz 0 0 20))) := w_ne hE49 (by omega) he43
  have he56 : en50 b2 = .inr (1, [.ref (ad (b2 + 1)), .ref (ad (b2 + 2)), .ref (ad (b2 + 3)), .ref (ad (b2 + 4)), .int (nI (aCn A))]) := w_ne hE49 (by omega) he44
  have he57 : en50 (b2 + 1) = .inl (q.1, 8, .inl mf) := w_ne hE49 (by omega) he45
  have he58 : en50 (b2 + 2) = .inl (q.2.1, 8, .inr (.inl hf)) := w_ne hE49 (by omega) he46
  have he59 : en50 (b2 + 3) = .inl (q.2.1, 8, .inr (.inl tf)) := w_ne hE49 (by omega) he47
  have he60 : en50 (b2 + 4) = .inl (q.2.1, 20, .inr (.inl vf)) := w_ne hE49 (by omega) he48
  refine we_v hx hb hr hlocks hw ?_ dX0_copyFrom_68
  exact ⟨⟨_, _, _, _, he51, he52, he53, he54, he55, RC_copy hR hcn⟩, fun j hj => (w_fr hE49 (by omega)).trans ((w_fr hE37 (by omega)).trans ((w_fr hE25 (by omega)).trans ((w_fr hE13 (by omega)).trans (w_fr hE1 (by omega)))))⟩
