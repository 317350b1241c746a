def pForgetI (x : Int32) (P : Pst) : Pst := if P.2.2.2.2.1 = x then (P.1, P.2.1, P.2.2.1, P.2.2.2.1, -1, P.2.2.2.2.2) else P
def nfC (cs : Nat → Int32) (tw tp c z : Int32) : Nat → Int32 := fun i => if i = 2 then cs 2 + 1 else if i = 3 then tw else if i = 4 then tp else if i = 5 then c else if i = 6 then z else cs i
def tR (P : Pst) (z : Int32) (a : Int64) (A : Ast) : Int32 × Nat × Ast × Int64 := aRun P z a P.2.1 0 A a
theorem va_up_id {α : Type} (f : Nat → α) (k : Nat) : va_up f k (f k) = f := by
  funext j
  by_cases h : j = k
  · rw [h, va_up_self]
  · rw [va_up_ne _ _ h]
theorem aRun_t {P : Pst} {z : Int32} {a x : Int64} {f i : Nat} {A : Ast} (h : P.2.2.2.2.1 = nI i) : aRun P z a (f + 1) i A x = (P.2.2.2.2.2, i, A, x) := by
  unfold aRun
  rw [if_pos h]
theorem aRun_s {P : Pst} {z : Int32} {a x : Int64} {f i : Nat} {A : Ast} (h : ¬ P.2.2.2.2.1 = nI i) (h2 : (aDo P i z a A x).1 = 0) : aRun P z a (f + 1) i A x = aRun P z a f (i + 1) (aDo P i z a A x).2.1 (aDo P i z a A x).2.2 := by
  rw [aRun, if_neg h, if_pos h2]
theorem aRun_f {P : Pst} {z : Int32} {a x : Int64} {f i : Nat} {A : Ast} (h : ¬ P.2.2.2.2.1 = nI i) (h2 : ¬ (aDo P i z a A x).1 = 0) : aRun P z a (f + 1) i A x = ((aDo P i z a A x).1, i, (aDo P i z a A x).2.1, (aDo P i z a A x).2.2) := by
  rw [aRun, if_neg h, if_neg h2]
theorem told_ne {P : Pst} (h : Pok P) {i : Nat} (ht : P.2.2.2.2.1 = nI i) (hi : i < 2 ^ 31) : ¬ P.2.2.2.2.2 = 0 := by
  rcases h.2.2 with h1 | h1
  · rw [ht] at h1
    have := congrArg Int32.toInt h1
    rw [nI_toInt hi] at this
    have e : (-1 : Int32).toInt = -1 := by decide
    rw [e] at this
    omega
  · intro h2
    rw [h2] at h1
    exact absurd h1.2.1 (by decide)
set_option maxHeartbeats 4000000 in
set_option maxRecDepth 100000 in
theorem kX2_noteFailure (l : Launch) (dC : Nat → ClassId) (dI : Nat → Nat → Nat) (q : ClassId × ClassId × ClassId × ClassId) (ad : Nat → Nat) (en : Nat → va_E) (n sz : Nat) (hn42 : 42 ≤ n) (nb tb : Nat) (A Z : Ast) (pl : Nat → Pst) (cs : Nat → Int32) (ta : Int64) (tw tp : Int32) (hC : DeskC q ad en nb tb A Z pl cs ta tw tp) (c1 : Nat) (hc : c1 < 10) (z : Int32) :
    Met l yX2_noteFailure wsX2_noteFailure ({ frames := 1, cells := 0, slots := 0, locals := 21 }) (wPc (dC, dI) vwCl (wT q) ad en n sz [.ref (ad 0), .int (nI c1), .int z]) (va_Qv (fun (en' : Nat → va_E) => DeskC q ad en' nb tb A Z (va_up pl c1 (pForgetI tp (pl c1))) (nfC cs tw tp (nI c1) z) ta tw tp ∧ ∀ j, 42 ≤ j → en' j = en j) (wB (dC, dI) vwCl (wT q) ad n (wA ad n sz)) (wA ad n sz)) 0 0 (wA ad n sz) := by
  refine Met.ofW (cc := cX2_noteFailure) (maxL := 3) (ret := none) (by decide) rfl ?_
  intro p e s m args below meth c s₁ B hml hv
  obtain ⟨rfl, hsz, hP, hK, hD0, hE0⟩ := hv
  have hx := B.exec
  have hb := B.bytes
  have hr := B.returns
  have hts := atoms_spec (ws := wsX2_noteFailure) B.pre
  have hown : s.vm.findClass RX2 = some m.cls := findClass_of_methodNamed B.named
  have hlocks := B.notSynchronized
  have iRX2 : ∀ w ∈ u_ws RX2 TX2 13, w ∈ wsX2_noteFailure := by decide +kernel
  have iRX1 : ∀ w ∈ u_ws RX1 TX1 6, w ∈ wsX2_noteFailure := by decide +kernel
  subst hsz
  have hw := wk_of hP hK hD0 hE0
  generalize wA ad n s.heap.size = AA at hw ⊢
  have hl := lv_entry ([.ref (ad 0), .int (nI c1), .int z]) (n := 3) (Nat.le_of_ble_eq_true rfl)
  rw [lg_entry_eq]
  generalize (lg_sl ([.ref (ad 0), .int (nI c1), .int z]) ++ List.replicate (3 - (lg_sl ([.ref (ad 0), .int (nI c1), .int z])).length) Slot.unset).toArray = ls at hl ⊢
  have hl : lv_has ls 3 [(0, .ref (ad 0)), (1, .int (nI c1)), (2, .int z)] := hl
  obtain ⟨hntt1, dt1, ⟨gt1, et1, hgt1⟩, hpt1, hNt1, hTt1⟩ := id hC
  obtain ⟨mft1, vht1, tft1, vft1, n0t1, n1t1, n2t1, n3t1, n4t1, hRt1⟩ := id hNt1
  have hnt := hntt1
  obtain ⟨sfu2, kfu2, p0u2, p1u2, p2u2, p3u2⟩ := id (hpt1 c1 hc)
  refine lv_aload_n hx hb dX2_noteFailure_0 rfl (lv_at hl 0 rfl) ?_
  refine wr_get (ci := 3) (C := RX2) (T := TX2) (N := 13) hx hb hts iRX2 hown hw 0 (by omega) dt1 rfl 0 (by decide) (hts (.fieldLink RX2 11 "LibraryDesk" "plans" "[LLibraryDesk$Plan;") (by decide +kernel)) (fun _ h9 => h9) rfl dX2_noteFailure_1 ?_
  refine lv_iload_n hx hb dX2_noteFailure_4 rfl (lv_at hl 1 rfl) ?_
  refine wr_aldq (q := ad (2 + 3 * c1)) hx hb hw 1 (by omega) 3 et1 rfl (vp_in_nI (by omega) (by decide)) (by rw [(nI_clamp (by omega))]; exact hgt1 c1 hc) dX2_noteFailure_5 ?_
  refine lv_aload_n hx hb dX2_noteFailure_6 rfl (lv_at hl 0 rfl) ?_
  refine wr_get (ci := 3) (C := RX2) (T := TX2) (N := 13) hx hb hts iRX2 hown hw 0 (by omega) dt1 rfl 5 (by decide) (hts (.fieldLink RX2 138 "LibraryDesk" "trialFailedAt" "I") (by decide +kernel)) (fun _ h9 => h9) rfl dX2_noteFailure_7 ?_
  refine wc_i hw (va_runV (As := [.int tp]) (rest := []) ⟨hx, hb, hml, hown, hts⟩ (kX1_isToldToFailAt l dC dI q ad en n _ (2 + 3 * c1) (by omega) (pl c1) (hpt1 c1 hc) tp) (cwV 1 hts gX2_noteFailure_X1_isToldToFailAt rfl rfl rfl (by decide +kernel) ⟨Nat.le_of_ble_eq_true rfl, Nat.le_of_ble_eq_true rfl⟩) (wk_preV hw (by omega) p0u2 rfl) rfl rfl hl.1 rfl (lv_room (Nat.le_of_ble_eq_true rfl)) dX2_noteFailure_10 ⟨Nat.le_refl _, Nat.le_refl _⟩) (fun r3 en5 H locs hp4 hw => ?_)
  obtain ⟨hr6, hn7⟩ := hp4
  rw [hn7] at hw
  clear hn7
  refine lv_if_eq (tgt := 25) hx hb dX2_noteFailure_13 (by decide) (fun c13 => ?_) (fun c13 => ?_)
  · have hh := z01_f hr6 c13
    refine lv_aload_n hx hb dX2_noteFailure_25 rfl (lv_at hl 0 rfl) ?_
    refine lv_dup hx hb dX2_noteFailure_26 rfl ?_
    refine wr_get (ci := 3) (C := RX2) (T := TX2) (N := 13) hx hb hts iRX2 hown hw 0 (by omega) dt1 rfl 8 (by decide) (hts (.fieldLink RX2 98 "LibraryDesk" "failedCalls" "I") (by decide +kernel)) (fun _ h9 => h9) rfl dX2_noteFailure_27 ?_
    refine lv_iconst (v := 1) hx hb dX2_noteFailure_30 (by decide) ?_
    refine lv_iadd hx hb dX2_noteFailure_31 ?_
    refine lv_topi (fun x8 ex8 => ?_)
    have ex8n : x8 = cs 2 + 1 := ex8.trans (rfl)
    clear ex8
    subst ex8n
    refine wr_put (ci := 3) (v := .int (cs 2 + 1)) (ty := .int) (C := RX2) (T := TX2) (N := 13) hx hb hts iRX2 tyX2 tyX2_ok nmX2 hown hw 0 (by omega) dt1 rfl 8 (by decide) (hts (.fieldLink RX2 98 "LibraryDesk" "failedCalls" "I") (by decide +kernel)) (fun _ h9 => h9) rfl (by decide +kernel) rfl rfl (Nat.le_of_ble_eq_true rfl) dX2_noteFailure_32 (fun en10 H locs hE9 hw => ?_)
    have he11 : en10 0 = .inr (3, [.ref (ad 1), .ref (ad nb), .ref (ad tb), .long ta, .int tw, .int tp, .int (cs 0), .int (cs 1), .int (cs 2 + 1), .int (cs 3), .int (cs 4), .int (cs 5), .int (cs 6)]) := w_self hE9
    have he12 : en10 1 = .inl (q.2.2.2, 10, .inr (.inr (.inr (.inr gt1)))) := w_ne hE9 (by omega) et1
    have he13 : en10 nb = .inr (1, [.ref (ad (nb + 1)), .ref (ad (nb + 2)), .ref (ad (nb + 3)), .ref (ad (nb + 4)), .int (nI (aCn A))]) := w_ne hE9 (by omega) n0t1
    have he14 : en10 (nb + 1) = .inl (q.1, 8, .inl mft1) := w_ne hE9 (by omega) n1t1
    have he15 : en10 (nb + 2) = .inl (q.2.1, 8, .inr (.inl vht1)) := w_ne hE9 (by omega) n2t1
    have he16 : en10 (nb + 3) = .inl (q.2.1, 8, .inr (.inl tft1)) := w_ne hE9 (by omega) n3t1
    have he17 : en10 (nb + 4) = .inl (q.2.1, 20, .inr (.inl vft1)) := w_ne hE9 (by omega) n4t1
    have he18 : en10 (2 + 3 * c1) = .inr (2, [.int ((pl c1).1), .int (nI (pl c1).2.1), .ref (ad (2 + 3 * c1 + 1)), .ref (ad (2 + 3 * c1 + 2)), .int ((pl c1).2.2.2.2.1), .int ((pl c1).2.2.2.2.2)]) := w_ne hE9 (by omega) p0u2
    have he19 : en10 (2 + 3 * c1 + 1) = .inl (q.1, 6, .inl sfu2) := w_ne hE9 (by omega) p1u2
    have he20 : en10 (2 + 3 * c1 + 2) = .inl (q.1, 6, .inl kfu2) := w_ne hE9 (by omega) p2u2
    refine lv_aload_n hx hb dX2_noteFailure_35 rfl (lv_at hl 0 rfl) ?_
    refine lv_aload_n hx hb dX2_noteFailure_36 rfl (lv_at hl 0 rfl) ?_
    refine wr_get (ci := 3) (C := RX2) (T := TX2) (N := 13) hx hb hts iRX2 hown hw 0 (by omega) he11 rfl 4 (by decide) (hts (.fieldLink RX2 80 "LibraryDesk" "trialFailedWith" "I") (by decide +kernel)) (fun _ h9 => h9) rfl dX2_noteFailure_37 ?_
    refine wr_put (ci := 3) (v := .int tw) (ty := .int) (C := RX2) (T := TX2) (N := 13) hx hb hts iRX2 tyX2 tyX2_ok nmX2 hown hw 0 (by omega) he11 rfl 9 (by decide) (hts (.fieldLink RX2 101 "LibraryDesk" "lastFailedWith" "I") (by decide +kernel)) (fun _ h9 => h9) rfl (by decide +kernel) rfl rfl (Nat.le_of_ble_eq_true rfl) dX2_noteFailure_40 (fun en22 H locs hE21 hw => ?_)
    have he23 : en22 0 = .inr (3, [.ref (ad 1), .ref (ad nb), .ref (ad tb), .long ta, .int tw, .int tp, .int (cs 0), .int (cs 1), .int (cs 2 + 1), .int tw, .int (cs 4), .int (cs 5), .int (cs 6)]) := w_self hE21
    have he24 : en22 1 = .inl (q.2.2.2, 10, .inr (.inr (.inr (.inr gt1)))) := w_ne hE21 (by omega) he12
    have he25 : en22 nb = .inr (1, [.ref (ad (nb + 1)), .ref (ad (nb + 2)), .ref (ad (nb + 3)), .ref (ad (nb + 4)), .int (nI (aCn A))]) := w_ne hE21 (by omega) he13
    have he26 : en22 (nb + 1) = .inl (q.1, 8, .inl mft1) := w_ne hE21 (by omega) he14
    have he27 : en22 (nb + 2) = .inl (q.2.1, 8, .inr (.inl vht1)) := w_ne hE21 (by omega) he15
    have he28 : en22 (nb + 3) = .inl (q.2.1, 8, .inr (.inl tft1)) := w_ne hE21 (by omega) he16
    have he29 : en22 (nb + 4) = .inl (q.2.1, 20, .inr (.inl vft1)) := w_ne hE21 (by omega) he17
    have he30 : en22 (2 + 3 * c1) = .inr (2, [.int ((pl c1).1), .int (nI (pl c1).2.1), .ref (ad (2 + 3 * c1 + 1)), .ref (ad (2 + 3 * c1 + 2)), .int ((pl c1).2.2.2.2.1), .int ((pl c1).2.2.2.2.2)]) := w_ne hE21 (by omega) he18
    have he31 : en22 (2 + 3 * c1 + 1) = .inl (q.1, 6, .inl sfu2) := w_ne hE21 (by omega) he19
    have he32 : en22 (2 + 3 * c1 + 2) = .inl (q.1, 6, .inl kfu2) := w_ne hE21 (by omega) he20
    refine lv_aload_n hx hb dX2_noteFailure_43 rfl (lv_at hl 0 rfl) ?_
    refine lv_aload_n hx hb dX2_noteFailure_44 rfl (lv_at hl 0 rfl) ?_
    refine wr_get (ci := 3) (C := RX2) (T := TX2) (N := 13) hx hb hts iRX2 hown hw 0 (by omega) he23 rfl 5 (by decide) (hts (.fieldLink RX2 138 "LibraryDesk" "trialFailedAt" "I") (by decide +kernel)) (fun _ h9 => h9) rfl dX2_noteFailure_45 ?_
    refine wr_put (ci := 3) (v := .int tp) (ty := .int) (C := RX2) (T := TX2) (N := 13) hx hb hts iRX2 tyX2 tyX2_ok nmX2 hown hw 0 (by omega) he23 rfl 10 (by decide) (hts (.fieldLink RX2 104 "LibraryDesk" "lastFailedAct" "I") (by decide +kernel)) (fun _ h9 => h9) rfl (by decide +kernel) rfl rfl (Nat.le_of_ble_eq_true rfl) dX2_noteFailure_48 (fun en34 H locs hE33 hw => ?_)
    have he35 : en34 0 = .inr (3, [.ref (ad 1), .ref (ad nb), .ref (ad tb), .long ta, .int tw, .int tp, .int (cs 0), .int (cs 1), .int (cs 2 + 1), .int tw, .int tp, .int (cs 5), .int (cs 6)]) := w_self hE33
    have he36 : en34 1 = .inl (q.2.2.2, 10, .inr (.inr (.inr (.inr gt1)))) := w_ne hE33 (by omega) he24
    have he37 : en34 nb = .inr (1, [.ref (ad (nb + 1)), .ref (ad (nb + 2)), .ref (ad (nb + 3)), .ref (ad (nb + 4)), .int (nI (aCn A))]) := w_ne hE33 (by omega) he25
    have he38 : en34 (nb + 1) = .inl (q.1, 8, .inl mft1) := w_ne hE33 (by omega) he26
    have he39 : en34 (nb + 2) = .inl (q.2.1, 8, .inr (.inl vht1)) := w_ne hE33 (by omega) he27
    have he40 : en34 (nb + 3) = .inl (q.2.1, 8, .inr (.inl tft1)) := w_ne hE33 (by omega) he28
    have he41 : en34 (nb + 4) = .inl (q.2.1, 20, .inr (.inl vft1)) := w_ne hE33 (by omega) he29
    have he42 : en34 (2 + 3 * c1) = .inr (2, [.int ((pl c1).1), .int (nI (pl c1).2.1), .ref (ad (2 + 3 * c1 + 1)), .ref (ad (2 + 3 * c1 + 2)), .int ((pl c1).2.2.2.2.1), .int ((pl c1).2.2.2.2.2)]) := w_ne hE33 (by omega) he30
    have he43 : en34 (2 + 3 * c1 + 1) = .inl (q.1, 6, .inl sfu2) := w_ne hE33 (by omega) he31
    have he44 : en34 (2 + 3 * c1 + 2) = .inl (q.1, 6, .inl kfu2) := w_ne hE33 (by omega) he32
    refine lv_aload_n hx hb dX2_noteFailure_51 rfl (lv_at hl 0 rfl) ?_
    refine lv_iload_n hx hb dX2_noteFailure_52 rfl (lv_at hl 1 rfl) ?_
    refine wr_put (ci := 3) (v := .int (nI c1)) (ty := .int) (C := RX2) (T := TX2) (N := 13) hx hb hts iRX2 tyX2 tyX2_ok nmX2 hown hw 0 (by omega) he35 rfl 11 (by decide) (hts (.fieldLink RX2 107 "LibraryDesk" "lastFailedCall" "I") (by decide +kernel)) (fun _ h9 => h9) rfl (by decide +kernel) rfl rfl (Nat.le_of_ble_eq_true rfl) dX2_noteFailure_53 (fun en46 H locs hE45 hw => ?_)
    have he47 : en46 0 = .inr (3, [.ref (ad 1), .ref (ad nb), .ref (ad tb), .long ta, .int tw, .int tp, .int (cs 0), .int (cs 1), .int (cs 2 + 1), .int tw, .int tp, .int (nI c1), .int (cs 6)]) := w_self hE45
    have he48 : en46 1 = .inl (q.2.2.2, 10, .inr (.inr (.inr (.inr gt1)))) := w_ne hE45 (by omega) he36
    have he49 : en46 nb = .inr (1, [.ref (ad (nb + 1)), .ref (ad (nb + 2)), .ref (ad (nb + 3)), .ref (ad (nb + 4)), .int (nI (aCn A))]) := w_ne hE45 (by omega) he37
    have he50 : en46 (nb + 1) = .inl (q.1, 8, .inl mft1) := w_ne hE45 (by omega) he38
    have he51 : en46 (nb + 2) = .inl (q.2.1, 8, .inr (.inl vht1)) := w_ne hE45 (by omega) he39
    have he52 : en46 (nb + 3) = .inl (q.2.1, 8, .inr (.inl tft1)) := w_ne hE45 (by omega) he40
    have he53 : en46 (nb + 4) = .inl (q.2.1, 20, .inr (.inl vft1)) := w_ne hE45 (by omega) he41
    have he54 : en46 (2 + 3 * c1) = .inr (2, [.int ((pl c1).1), .int (nI (pl c1).2.1), .ref (ad (2 + 3 * c1 + 1)), .ref (ad (2 + 3 * c1 + 2)), .int ((pl c1).2.2.2.2.1), .int ((pl c1).2.2.2.2.2)]) := w_ne hE45 (by omega) he42
    have he55 : en46 (2 + 3 * c1 + 1) = .inl (q.1, 6, .inl sfu2) := w_ne hE45 (by omega) he43
    have he56 : en46 (2 + 3 * c1 + 2) = .inl (q.1, 6, .inl kfu2) := w_ne hE45 (by omega) he44
    refine lv_aload_n hx hb dX2_noteFailure_56 rfl (lv_at hl 0 rfl) ?_
    refine lv_iload_n hx hb dX2_noteFailure_57 rfl (lv_at hl 2 rfl) ?_
    refine wr_put (ci := 3) (v := .int z) (ty := .int) (C := RX2) (T := TX2) (N := 13) hx hb hts iRX2 tyX2 tyX2_ok nmX2 hown hw 0 (by omega) he47 rfl 12 (by decide) (hts (.fieldLink RX2 110 "LibraryDesk" "lastFailedNumber" "I") (by decide +kernel)) (fun _ h9 => h9) rfl (by decide +kernel) rfl rfl (Nat.le_of_ble_eq_true rfl) dX2_noteFailure_58 (fun en58 H locs hE57 hw => ?_)
    have he59 : en58 0 = .inr (3, [.ref (ad 1), .ref (ad nb), .ref (ad tb), .long ta, .int tw, .int tp, .int (cs 0), .int (cs 1), .int (cs 2 + 1), .int tw, .int tp, .int (nI c1), .int z]) := w_self hE57
    have he60 : en58 1 = .inl (q.2.2.2, 10, .inr (.inr (.inr (.inr gt1)))) := w_ne hE57 (by omega) he48
    have he61 : en58 nb = .inr (1, [.ref (ad (nb + 1)), .ref (ad (nb + 2)), .ref (ad (nb + 3)), .ref (ad (nb + 4)), .int (nI (aCn A))]) := w_ne hE57 (by omega) he49
    have he62 : en58 (nb + 1) = .inl (q.1, 8, .inl mft1) := w_ne hE57 (by omega) he50
    have he63 : en58 (nb + 2) = .inl (q.2.1, 8, .inr (.inl vht1)) := w_ne hE57 (by omega) he51
    have he64 : en58 (nb + 3) = .inl (q.2.1, 8, .inr (.inl tft1)) := w_ne hE57 (by omega) he52
    have he65 : en58 (nb + 4) = .inl (q.2.1, 20, .inr (.inl vft1)) := w_ne hE57 (by omega) he53
    have he66 : en58 (2 + 3 * c1) = .inr (2, [.int ((pl c1).1), .int (nI (pl c1).2.1), .ref (ad (2 + 3 * c1 + 1)), .ref (ad (2 + 3 * c1 + 2)), .int ((pl c1).2.2.2.2.1), .int ((pl c1).2.2.2.2.2)]) := w_ne hE57 (by omega) he54
    have he67 : en58 (2 + 3 * c1 + 1) = .inl (q.1, 6, .inl sfu2) := w_ne hE57 (by omega) he55
    have he68 : en58 (2 + 3 * c1 + 2) = .inl (q.1, 6, .inl kfu2) := w_ne hE57 (by omega) he56
    refine we_v hx hb hr hlocks hw ?_ dX2_noteFailure_61
    have hF : pForgetI tp (pl c1) = pl c1 := by
      unfold pForgetI
      rw [if_neg hh]
    rw [hF, va_up_id]
    exact ⟨DeskC_obj (cs' := nfC cs tw tp (nI c1) z) hC ⟨rfl, rfl⟩ he59 (fun j hj => (w_fr hE57 (by omega)).trans ((w_fr hE45 (by omega)).trans ((w_fr hE33 (by omega)).trans ((w_fr hE21 (by omega)).trans (w_fr hE9 (by omega)))))), fun j hj => (w_fr hE57 (by omega)).trans ((w_fr hE45 (by omega)).trans ((w_fr hE33 (by omega)).trans ((w_fr hE21 (by omega)).trans (w_fr hE9 (by omega)))))⟩
  · have hh := z01_t hr6 c13
    refine lv_aload_n hx hb dX2_noteFailure_16 rfl (lv_at hl 0 rfl) ?_
    refine wr_get (ci := 3) (C := RX2) (T := TX2) (N := 13) hx hb hts iRX2 hown hw 0 (by omega) dt1 rfl 0 (by decide) (hts (.fieldLink RX2 11 "LibraryDesk" "plans" "[LLibraryDesk$Plan;") (by decide +kernel)) (fun _ h9 => h9) rfl dX2_noteFailure_17 ?_
    refine lv_iload_n hx hb dX2_noteFailure_20 rfl (lv_at hl 1 rfl) ?_
    refine wr_aldq (q := ad (2 + 3 * c1)) hx hb hw 1 (by omega) 3 et1 rfl (vp_in_nI (by omega) (by decide)) (by rw [(nI_clamp (by omega))]; exact hgt1 c1 hc) dX2_noteFailure_21 ?_
    refine wc_v hw (va_runV (As := []) (rest := []) ⟨hx, hb, hml, hown, hts⟩ (kX1_forgetTold l dC dI q ad en n _ (2 + 3 * c1) (by omega) (pl c1) (hpt1 c1 hc)) (cwV 0 hts gX2_noteFailure_X1_forgetTold rfl rfl rfl (by decide +kernel) ⟨Nat.le_of_ble_eq_true rfl, Nat.le_of_ble_eq_true rfl⟩) (wk_preV hw (by omega) p0u2 rfl) rfl rfl hl.1 rfl (lv_room (Nat.le_of_ble_eq_true rfl)) dX2_noteFailure_22 ⟨Nat.le_refl _, Nat.le_refl _⟩) (fun en71 H locs hp70 hw => ?_)
    obtain ⟨hP1, hfr1⟩ := hp70
    have hC1 := DeskC_plan hC hc hP1 hfr1
    obtain ⟨-, dt72, ⟨gt72, et72, hgt72⟩, hpt72, hNt72, hTt72⟩ := id hC1
    obtain ⟨mft72, vht72, tft72, vft72, n0t72, n1t72, n2t72, n3t72, n4t72, hRt72⟩ := id hNt72
    refine lv_aload_n hx hb dX2_noteFailure_25 rfl (lv_at hl 0 rfl) ?_
    refine lv_dup hx hb dX2_noteFailure_26 rfl ?_
    refine wr_get (ci := 3) (C := RX2) (T := TX2) (N := 13) hx hb hts iRX2 hown hw 0 (by omega) dt72 rfl 8 (by decide) (hts (.fieldLink RX2 98 "LibraryDesk" "failedCalls" "I") (by decide +kernel)) (fun _ h9 => h9) rfl dX2_noteFailure_27 ?_
    refine lv_iconst (v := 1) hx hb dX2_noteFailure_30 (by decide) ?_
    refine lv_iadd hx hb dX2_noteFailure_31 ?_
    refine lv_topi (fun x73 ex73 => ?_)
    have ex73n : x73 = cs 2 + 1 := ex73.trans (rfl)
    clear ex73
    subst ex73n
    refine wr_put (ci := 3) (v := .int (cs 2 + 1)) (ty := .int) (C := RX2) (T := TX2) (N := 13) hx hb hts iRX2 tyX2 tyX2_ok nmX2 hown hw 0 (by omega) dt72 rfl 8 (by decide) (hts (.fieldLink RX2 98 "LibraryDesk" "failedCalls" "I") (by decide +kernel)) (fun _ h9 => h9) rfl (by decide +kernel) rfl rfl (Nat.le_of_ble_eq_true rfl) dX2_noteFailure_32 (fun en75 H locs hE74 hw => ?_)
    have he76 : en75 0 = .inr (3, [.ref (ad 1), .ref (ad nb), .ref (ad tb), .long ta, .int tw, .int tp, .int (cs 0), .int (cs 1), .int (cs 2 + 1), .int (cs 3), .int (cs 4), .int (cs 5), .int (cs 6)]) := w_self hE74
    have he77 : en75 1 = .inl (q.2.2.2, 10, .inr (.inr (.inr (.inr gt72)))) := w_ne hE74 (by omega) et72
    have he78 : en75 nb = .inr (1, [.ref (ad (nb + 1)), .ref (ad (nb + 2)), .ref (ad (nb + 3)), .ref (ad (nb + 4)), .int (nI (aCn A))]) := w_ne hE74 (by omega) n0t72
    have he79 : en75 (nb + 1) = .inl (q.1, 8, .inl mft72) := w_ne hE74 (by omega) n1t72
    have he80 : en75 (nb + 2) = .inl (q.2.1, 8, .inr (.inl vht72)) := w_ne hE74 (by omega) n2t72
    have he81 : en75 (nb + 3) = .inl (q.2.1, 8, .inr (.inl tft72)) := w_ne hE74 (by omega) n3t72
    have he82 : en75 (nb + 4) = .inl (q.2.1, 20, .inr (.inl vft72)) := w_ne hE74 (by omega) n4t72
    refine lv_aload_n hx hb dX2_noteFailure_35 rfl (lv_at hl 0 rfl) ?_
    refine lv_aload_n hx hb dX2_noteFailure_36 rfl (lv_at hl 0 rfl) ?_
    refine wr_get (ci := 3) (C := RX2) (T := TX2) (N := 13) hx hb hts iRX2 hown hw 0 (by omega) he76 rfl 4 (by decide) (hts (.fieldLink RX2 80 "LibraryDesk" "trialFailedWith" "I") (by decide +kernel)) (fun _ h9 => h9) rfl dX2_noteFailure_37 ?_
    refine wr_put (ci := 3) (v := .int tw) (ty := .int) (C := RX2) (T := TX2) (N := 13) hx hb hts iRX2 tyX2 tyX2_ok nmX2 hown hw 0 (by omega) he76 rfl 9 (by decide) (hts (.fieldLink RX2 101 "LibraryDesk" "lastFailedWith" "I") (by decide +kernel)) (fun _ h9 => h9) rfl (by decide +kernel) rfl rfl (Nat.le_of_ble_eq_true rfl) dX2_noteFailure_40 (fun en84 H locs hE83 hw => ?_)
    have he85 : en84 0 = .inr (3, [.ref (ad 1), .ref (ad nb), .ref (ad tb), .long ta, .int tw, .int tp, .int (cs 0), .int (cs 1), .int (cs 2 + 1), .int tw, .int (cs 4), .int (cs 5), .int (cs 6)]) := w_self hE83
    have he86 : en84 1 = .inl (q.2.2.2, 10, .inr (.inr (.inr (.inr gt72)))) := w_ne hE83 (by omega) he77
    have he87 : en84 nb = .inr (1, [.ref (ad (nb + 1)), .ref (ad (nb + 2)), .ref (ad (nb + 3)), .ref (ad (nb + 4)), .int (nI (aCn A))]) := w_ne hE83 (by omega) he78
    have he88 : en84 (nb + 1) = .inl (q.1, 8, .inl mft72) := w_ne hE83 (by omega) he79
    have he89 : en84 (nb + 2) = .inl (q.2.1, 8, .inr (.inl vht72)) := w_ne hE83 (by omega) he80
    have he90 : en84 (nb + 3) = .inl (q.2.1, 8, .inr (.inl tft72)) := w_ne hE83 (by omega) he81
    have he91 : en84 (nb + 4) = .inl (q.2.1, 20, .inr (.inl vft72)) := w_ne hE83 (by omega) he82
    refine lv_aload_n hx hb dX2_noteFailure_43 rfl (lv_at hl 0 rfl) ?_
    refine lv_aload_n hx hb dX2_noteFailure_44 rfl (lv_at hl 0 rfl) ?_
    refine wr_get (ci := 3) (C := RX2) (T := TX2) (N := 13) hx hb hts iRX2 hown hw 0 (by omega) he85 rfl 5 (by decide) (hts (.fieldLink RX2 138 "LibraryDesk" "trialFailedAt" "I") (by decide +kernel)) (fun _ h9 => h9) rfl dX2_noteFailure_45 ?_
    refine wr_put (ci := 3) (v := .int tp) (ty := .int) (C := RX2) (T := TX2) (N := 13) hx hb hts iRX2 tyX2 tyX2_ok nmX2 hown hw 0 (by omega) he85 rfl 10 (by decide) (hts (.fieldLink RX2 104 "LibraryDesk" "lastFailedAct" "I") (by decide +kernel)) (fun _ h9 => h9) rfl (by decide +kernel) rfl rfl (Nat.le_of_ble_eq_true rfl) dX2_noteFailure_48 (fun en93 H locs hE92 hw => ?_)
    have he94 : en93 0 = .inr (3, [.ref (ad 1), .ref (ad nb), .ref (ad tb), .long ta, .int tw, .int tp, .int (cs 0), .int (cs 1), .int (cs 2 + 1), .int tw, .int tp, .int (cs 5), .int (cs 6)]) := w_self hE92
    have he95 : en93 1 = .inl (q.2.2.2, 10, .inr (.inr (.inr (.inr gt72)))) := w_ne hE92 (by omega) he86
    have he96 : en93 nb = .inr (1, [.ref (ad (nb + 1)), .ref (ad (nb + 2)), .ref (ad (nb + 3)), .ref (ad (nb + 4)), .int (nI (aCn A))]) := w_ne hE92 (by omega) he87
    have he97 : en93 (nb + 1) = .inl (q.1, 8, .inl mft72) := w_ne hE92 (by omega) he88
    have he98 : en93 (nb + 2) = .inl (q.2.1, 8, .inr (.inl vht72)) := w_ne hE92 (by omega) he89
    have he99 : en93 (nb + 3) = .inl (q.2.1, 8, .inr (.inl tft72)) := w_ne hE92 (by omega) he90
    have he100 : en93 (nb + 4) = .inl (q.2.1, 20, .inr (.inl vft72)) := w_ne hE92 (by omega) he91
    refine lv_aload_n hx hb dX2_noteFailure_51 rfl (lv_at hl 0 rfl) ?_
    refine lv_iload_n hx hb dX2_noteFailure_52 rfl (lv_at hl 1 rfl) ?_
    refine wr_put (ci := 3) (v := .int (nI c1)) (ty := .int) (C := RX2) (T := TX2) (N := 13) hx hb hts iRX2 tyX2 tyX2_ok nmX2 hown hw 0 (by omega) he94 rfl 11 (by decide) (hts (.fieldLink RX2 107 "LibraryDesk" "lastFailedCall" "I") (by decide +kernel)) (fun _ h9 => h9) rfl (by decide +kernel) rfl rfl (Nat.le_of_ble_eq_true rfl) dX2_noteFailure_53 (fun en102 H locs hE101 hw => ?_)
    have he103 : en102 0 = .inr (3, [.ref (ad 1), .ref (ad nb), .ref (ad tb), .long ta, .int tw, .int tp, .int (cs 0), .int (cs 1), .int (cs 2 + 1), .int tw, .int tp, .int (nI c1), .int (cs 6)]) := w_self hE101
    have he104 : en102 1 = .inl (q.2.2.2, 10, .inr (.inr (.inr (.inr gt72)))) := w_ne hE101 (by omega) he95
    have he105 : en102 nb = .inr (1, [.ref (ad (nb + 1)), .ref (ad (nb + 2)), .ref (ad (nb + 3)), .ref (ad (nb + 4)), .int (nI (aCn A))]) := w_ne hE101 (by omega) he96
    have he106 : en102 (nb + 1) = .inl (q.1, 8, .inl mft72) := w_ne hE101 (by omega) he97
    have he107 : en102 (nb + 2) = .inl (q.2.1, 8, .inr (.inl vht72)) := w_ne hE101 (by omega) he98
    have he108 : en102 (nb + 3) = .inl (q.2.1, 8, .inr (.inl tft72)) := w_ne hE101 (by omega) he99
    have he109 : en102 (nb + 4) = .inl (q.2.1, 20, .inr (.inl vft72)) := w_ne hE101 (by omega) he100
    refine lv_aload_n hx hb dX2_noteFailure_56 rfl (lv_at hl 0 rfl) ?_
    refine lv_iload_n hx hb dX2_noteFailure_57 rfl (lv_at hl 2 rfl) ?_
    refine wr_put (ci := 3) (v := .int z) (ty := .int) (C := RX2) (T := TX2) (N := 13) hx hb hts iRX2 tyX2 tyX2_ok nmX2 hown hw 0 (by omega) he103 rfl 12 (by decide) (hts (.fieldLink RX2 110 "LibraryDesk" "lastFailedNumber" "I") (by decide +kernel)) (fun _ h9 => h9) rfl (by decide +kernel) rfl rfl (Nat.le_of_ble_eq_true rfl) dX2_noteFailure_58 (fun en111 H locs hE110 hw => ?_)
    have he112 : en111 0 = .inr (3, [.ref (ad 1), .ref (ad nb), .ref (ad tb), .long ta, .int tw, .int tp, .int (cs 0), .int (cs 1), .int (cs 2 + 1), .int tw, .int tp, .int (nI c1), .int z]) := w_self hE110
    have he113 : en111 1 = .inl (q.2.2.2, 10, .inr (.inr (.inr (.inr gt72)))) := w_ne hE110 (by omega) he104
    have he114 : en111 nb = .inr (1, [.ref (ad (nb + 1)), .ref (ad (nb + 2)), .ref (ad (nb + 3)), .ref (ad (nb + 4)), .int (nI (aCn A))]) := w_ne hE110 (by omega) he105
    have he115 : en111 (nb + 1) = .inl (q.1, 8, .inl mft72) := w_ne hE110 (by omega) he106
    have he116 : en111 (nb + 2) = .inl (q.2.1, 8, .inr (.inl vht72)) := w_ne hE110 (by omega) he107
    have he117 : en111 (nb + 3) = .inl (q.2.1, 8, .inr (.inl tft72)) := w_ne hE110 (by omega) he108
    have he118 : en111 (nb + 4) = .inl (q.2.1, 20, .inr (.inl vft72)) := w_ne hE110 (by omega) he109
    refine we_v hx hb hr hlocks hw ?_ dX2_noteFailure_61
    have hF : pForgetI tp (pl c1) = ((pl c1).1, (pl c1).2.1, (pl c1).2.2.1, (pl c1).2.2.2.1, -1, (pl c1).2.2.2.2.2) := by
      unfold pForgetI
      rw [if_pos hh]
    rw [hF]
    exact ⟨DeskC_obj (cs' := nfC cs tw tp (nI c1) z) hC1 ⟨rfl, rfl⟩ he112 (fun j hj => (w_fr hE110 (by omega)).trans ((w_fr hE101 (by omega)).trans ((w_fr hE92 (by omega)).trans ((w_fr hE83 (by omega)).trans (w_fr hE74 (by omega)))))), fun j hj => (w_fr hE110 (by omega)).trans ((w_fr hE101 (by omega)).trans ((w_fr hE92 (by omega)).trans ((w_fr hE83 (by omega)).trans ((w_fr hE74 (by omega)).trans (hfr1 j (by omega))))))⟩

set_option maxHeartbeats 4000000 in
set_option maxRecDepth 100000 in
theorem kX2_tryActs (l : Launch) (dC : Nat → ClassId) (dI : Nat → Nat → Nat) (q : ClassId × ClassId × ClassId × ClassId) (ad : Nat → Nat) (en : Nat → va_E) (n sz : Nat) (hn42 : 42 ≤ n) (nb tb : Nat) (A Z : Ast) (pl : Nat → Pst) (cs : Nat → Int32) (ta : Int64) (tw tp : Int32) (hC : DeskC q ad en nb tb A Z pl cs ta tw tp) (hok : Aok A) (c1 : Nat) (hc : c1 < 10) (hpk : Pok (pl c1)) (z : Int32) (a : Int64) :
    Met l yX2_tryActs wsX2_tryActs ({ frames := 4, cells := 0, slots := 0, locals := 90 }) (wPc (dC, dI) vwCl (wT q) ad en n sz [.ref (ad 0), .ref (ad (2 + 3 * c1)), .int z, .long a]) (va_Qv (fun (en' : Nat → va_E) => ∃ tp2 : Int32, DeskC q ad en' nb tb A (tR (pl c1) z a A).2.2.1 pl cs (tR (pl c1) z a A).2.2.2 (tR (pl c1) z a A).1 tp2 ∧ (¬ (tR (pl c1) z a A).1 = 0 → tp2 = nI (tR (pl c1) z a A).2.1) ∧ ∀ j, 42 ≤ j → en' j = en j) (wB (dC, dI) vwCl (wT q) ad n (wA ad n sz)) (wA ad n sz)) 0 0 (wA ad n sz) := by
  refine Met.ofW (cc := cX2_tryActs) (maxL := 6) (ret := none) (by decide) rfl ?_
  intro p e s m args below meth c s₁ B hml hv
  obtain ⟨rfl, hsz, hP, hK, hD0, hE0⟩ := hv
  have hx := B.exec
  have hb := B.bytes
  have hr := B.returns
  have hts := atoms_spec (ws := wsX2_tryActs) B.pre
  have hown : s.vm.findClass RX2 = some m.cls := findClass_of_methodNamed B.named
  have hlocks := B.notSynchronized
  have iRX2 : ∀ w ∈ u_ws RX2 TX2 13, w ∈ wsX2_tryActs := by decide +kernel
  have iRX1 : ∀ w ∈ u_ws RX1 TX1 6, w ∈ wsX2_tryActs := by decide +kernel
  subst hsz
  have hw := wk_of hP hK hD0 hE0
  generalize wA ad n s.heap.size = AA at hw ⊢
  have hl := lv_entry ([.ref (ad 0), .ref (ad (2 + 3 * c1)), .int z, .long a]) (n := 6) (Nat.le_of_ble_eq_true rfl)
  rw [lg_entry_eq]
  generalize (lg_sl ([.ref (ad 0), .ref (ad (2 + 3 * c1)), .int z, .long a]) ++ List.replicate (6 - (lg_sl ([.ref (ad 0), .ref (ad (2 + 3 * c1)), .int z, .long a])).length) Slot.unset).toArray = ls at hl ⊢
  have hl : lv_has ls 6 [(0, .ref (ad 0)), (1, .ref (ad (2 + 3 * c1))), (2, .int z), (3, .long a)] := hl
  obtain ⟨hntt1, dt1, ⟨gt1, et1, hgt1⟩, hpt1, hNt1, hTt1⟩ := id hC
  obtain ⟨mft1, vht1, tft1, vft1, n0t1, n1t1, n2t1, n3t1, n4t1, hRt1⟩ := id hNt1
  obtain ⟨mzt1, vzt1, tzt1, wzt1, z0t1, z1t1, z2t1, z3t1, z4t1, hZt1⟩ := id hTt1
  have hnt := hntt1
  refine lv_aload_n hx hb dX2_tryActs_0 rfl (lv_at hl 0 rfl) ?_
  refine wr_get (ci := 3) (C := RX2) (T := TX2) (N := 13) hx hb hts iRX2 hown hw 0 (by omega) dt1 rfl 2 (by decide) (hts (.fieldLink RX2 23 "LibraryDesk" "trial" "LLibraryDesk$Holdings;") (by decide +kernel)) (fun _ h9 => h9) rfl dX2_tryActs_1 ?_
  refine lv_aload_n hx hb dX2_tryActs_4 rfl (lv_at hl 0 rfl) ?_
  refine wr_get (ci := 3) (C := RX2) (T := TX2) (N := 13) hx hb hts iRX2 hown hw 0 (by omega) dt1 rfl 1 (by decide) (hts (.fieldLink RX2 19 "LibraryDesk" "now" "LLibraryDesk$Holdings;") (by decide +kernel)) (fun _ h9 => h9) rfl dX2_tryActs_5 ?_
  refine wc_v hw (va_runV (As := [.ref (ad nb)]) (rest := []) ⟨hx, hb, hml, hown, hts⟩ (kX0_copyFrom l dC dI q ad en n _ tb nb (by omega) (by omega) (by omega) Z A hok hTt1 hNt1) (cwV 1 hts gX2_tryActs_X0_copyFrom rfl rfl rfl (by decide +kernel) ⟨Nat.le_of_ble_eq_true rfl, Nat.le_of_ble_eq_true rfl⟩) (wk_preV hw (by omega) z0t1 rfl) rfl rfl hl.1 rfl (lv_room (Nat.le_of_ble_eq_true rfl)) dX2_tryActs_8 ⟨Nat.le_refl _, Nat.le_refl _⟩) (fun en4 H locs hp3 hw => ?_)
  obtain ⟨hH1, hfr1⟩ := hp3
  have hC1 := DeskC_trial hC hH1 hfr1
  obtain ⟨-, dt5, ⟨gt5, et5, hgt5⟩, hpt5, hNt5, hTt5⟩ := id hC1
  obtain ⟨mft5, vht5, tft5, vft5, n0t5, n1t5, n2t5, n3t5, n4t5, hRt5⟩ := id hNt5
  obtain ⟨sfu6, kfu6, p0u6, p1u6, p2u6, p3u6⟩ := id (hpt5 c1 hc)
  refine lv_aload_n hx hb dX2_tryActs_11 rfl (lv_at hl 0 rfl) ?_
  refine lv_lload_n hx hb dX2_tryActs_12 rfl (lv_at hl 3 rfl) ?_
  refine wr_put (ci := 3) (v := .long a) (ty := .long) (C := RX2) (T := TX2) (N := 13) hx hb hts iRX2 tyX2 tyX2_ok nmX2 hown hw 0 (by omega) dt5 rfl 3 (by decide) (hts (.fieldLink RX2 94 "LibraryDesk" "trialAnswer" "J") (by decide +kernel)) (fun _ h9 => h9) rfl (by decide +kernel) rfl rfl (Nat.le_of_ble_eq_true rfl) dX2_tryActs_13 (fun en8 H locs hE7 hw => ?_)
  have he9 : en8 0 = .inr (3, [.ref (ad 1), .ref (ad nb), .ref (ad tb), .long a, .int tw, .int tp, .int (cs 0), .int (cs 1), .int (cs 2), .int (cs 3), .int (cs 4), .int (cs 5), .int (cs 6)]) := w_self hE7
  have he10 : en8 1 = .inl (q.2.2.2, 10, .inr (.inr (.inr (.inr gt5)))) := w_ne hE7 (by omega) et5
  have he11 : en8 nb = .inr (1, [.ref (ad (nb + 1)), .ref (ad (nb + 2)), .ref (ad (nb + 3)), .ref (ad (nb + 4)), .int (nI (aCn A))]) := w_ne hE7 (by omega) n0t5
  have he12 : en8 (nb + 1) = .inl (q.1, 8, .inl mft5) := w_ne hE7 (by omega) n1t5
  have he13 : en8 (nb + 2) = .inl (q.2.1, 8, .inr (.inl vht5)) := w_ne hE7 (by omega) n2t5
  have he14 : en8 (nb + 3) = .inl (q.2.1, 8, .inr (.inl tft5)) := w_ne hE7 (by omega) n3t5
  have he15 : en8 (nb + 4) = .inl (q.2.1, 20, .inr (.inl vft5)) := w_ne hE7 (by omega) n4t5
  have he16 : en8 (2 + 3 * c1) = .inr (2, [.int ((pl c1).1), .int (nI (pl c1).2.1), .ref (ad (2 + 3 * c1 + 1)), .ref (ad (2 + 3 * c1 + 2)), .int ((pl c1).2.2.2.2.1), .int ((pl c1).2.2.2.2.2)]) := w_ne hE7 (by omega) p0u6
  have he17 : en8 (2 + 3 * c1 + 1) = .inl (q.1, 6, .inl sfu6) := w_ne hE7 (by omega) p1u6
  have he18 : en8 (2 + 3 * c1 + 2) = .inl (q.1, 6, .inl kfu6) := w_ne hE7 (by omega) p2u6
  refine lv_aload_n hx hb dX2_tryActs_16 rfl (lv_at hl 0 rfl) ?_
  refine lv_iconst (v := 0) hx hb dX2_tryActs_17 (by decide) ?_
  refine wr_put (ci := 3) (v := .int 0) (ty := .int) (C := RX2) (T := TX2) (N := 13) hx hb hts iRX2 tyX2 tyX2_ok nmX2 hown hw 0 (by omega) he9 rfl 4 (by decide) (hts (.fieldLink RX2 80 "LibraryDesk" "trialFailedWith" "I") (by decide +kernel)) (fun _ h9 => h9) rfl (by decide +kernel) rfl rfl (Nat.le_of_ble_eq_true rfl) dX2_tryActs_18 (fun en20 H locs hE19 hw => ?_)
  have he21 : en20 0 = .inr (3, [.ref (ad 1), .ref (ad nb), .ref (ad tb), .long a, .int 0, .int tp, .int (cs 0), .int (cs 1), .int (cs 2), .int (cs 3), .int (cs 4), .int (cs 5), .int (cs 6)]) := w_self hE19
  have he22 : en20 1 = .inl (q.2.2.2, 10, .inr (.inr (.inr (.inr gt5)))) := w_ne hE19 (by omega) he10
  have he23 : en20 nb = .inr (1, [.ref (ad (nb + 1)), .ref (ad (nb + 2)), .ref (ad (nb + 3)), .ref (ad (nb + 4)), .int (nI (aCn A))]) := w_ne hE19 (by omega) he11
  have he24 : en20 (nb + 1) = .inl (q.1, 8, .inl mft5) := w_ne hE19 (by omega) he12
  have he25 : en20 (nb + 2) = .inl (q.2.1, 8, .inr (.inl vht5)) := w_ne hE19 (by omega) he13
  have he26 : en20 (nb + 3) = .inl (q.2.1, 8, .inr (.inl tft5)) := w_ne hE19 (by omega) he14
  have he27 : en20 (nb + 4) = .inl (q.2.1, 20, .inr (.inl vft5)) := w_ne hE19 (by omega) he15
  have he28 : en20 (2 + 3 * c1) = .inr (2, [.int ((pl c1).1), .int (nI (pl c1).2.1), .ref (ad (2 + 3 * c1 + 1)), .ref (ad (2 + 3 * c1 + 2)), .int ((pl c1).2.2.2.2.1), .int ((pl c1).2.2.2.2.2)]) := w_ne hE19 (by omega) he16
  have he29 : en20 (2 + 3 * c1 + 1) = .inl (q.1, 6, .inl sfu6) := w_ne hE19 (by omega) he17
  have he30 : en20 (2 + 3 * c1 + 2) = .inl (q.1, 6, .inl kfu6) := w_ne hE19 (by omega) he18
  refine lv_iconst (v := 0) hx hb dX2_tryActs_21 (by decide) ?_
  refine lv_istore (lv' := [(5, .int 0), (0, .ref (ad 0)), (1, .ref (ad (2 + 3 * c1))), (2, .int z), (3, .long a)]) hx hb dX2_tryActs_22 hl (by decide) rfl (fun ls hl => ?_)
  have hC2 := DeskC_obj hC1 ⟨rfl, rfl⟩ he21 (fun j hj => (w_fr hE19 (by omega)).trans (w_fr hE7 (by omega)))
  have keyF : ∀ (i : Nat) (en1 : Nat → va_E) (Zi : Ast) (xi : Int64) (w1 : Int32) (pp : Nat), DeskC q ad en1 nb tb A Zi pl cs xi w1 (nI pp) → ¬ w1 = 0 → (tR (pl c1) z a A) = (w1, pp, Zi, xi) → (∀ j, 42 ≤ j → en1 j = en j) → ∀ (H : Heap) (locs : List Loc), wk (dC, dI) vwCl (wT q) ad en1 n AA s H locs → ∀ ls : Array Slot, lv_has ls 6 [(5, .int (nI i)), (0, .ref (ad 0)), (1, .ref (ad (2 + 3 * c1))), (2, .int z), (3, .long a)] → W p l e (headSpec wsX2_tryActs ({ frames := 4, cells := 0, slots := 0, locals := 90 })).room s m ([.ref (ad 0), .ref (ad (2 + 3 * c1)), .int z, .long a].toArray) below meth c H locs 0 0 (MQ below (va_Qv (fun (en' : Nat → va_E) => ∃ tp2 : Int32, DeskC q ad en' nb tb A (tR (pl c1) z a A).2.2.1 pl cs (tR (pl c1) z a A).2.2.2 (tR (pl c1) z a A).1 tp2 ∧ (¬ (tR (pl c1) z a A).1 = 0 → tp2 = nI (tR (pl c1) z a A).2.1) ∧ ∀ j, 42 ≤ j → en' j = en j) (wB (dC, dI) vwCl (wT q) ad n AA) AA) ([.ref (ad 0), .ref (ad (2 + 3 * c1)), .int z, .long a].toArray) s 0 0 AA) (F0 m 24 ls []) := by
    intro i en1 Zi xi w1 pp hCf hw1 hres hfr H locs hw ls hl
    obtain ⟨-, dt31, ⟨gt31, et31, hgt31⟩, hpt31, hNt31, hTt31⟩ := id hCf
    obtain ⟨mft31, vht31, tft31, vft31, n0t31, n1t31, n2t31, n3t31, n4t31, hRt31⟩ := id hNt31
    obtain ⟨sfu32, kfu32, p0u32, p1u32, p2u32, p3u32⟩ := id (hpt31 c1 hc)
    refine lv_iload hx hb dX2_tryActs_24 (lv_at hl 0 rfl) ?_
    refine lv_aload_n hx hb dX2_tryActs_26 rfl (lv_at hl 2 rfl) ?_
    refine wr_get (ci := 2) (C := RX1) (T := TX1) (N := 6) hx hb hts iRX1 hown hw (2 + 3 * c1) (by omega) p0u32 rfl 1 (by decide) (hts (.fieldLink RX2 51 "LibraryDesk$Plan" "actCount" "I") (by decide +kernel)) (fun _ h9 => h9) rfl dX2_tryActs_27 ?_
    refine lv_icmp_ge (tgt := 81) hx hb dX2_tryActs_30 (by decide) (fun c30 => ?_) (fun c30 => ?_)
    · refine we_v hx hb hr hlocks hw ?_ dX2_tryActs_81
      rw [hres]
      exact ⟨nI pp, hCf, fun _ => rfl, fun j hj => hfr j hj⟩
    · refine lv_aload_n hx hb dX2_tryActs_33 rfl (lv_at hl 1 rfl) ?_
      refine wr_get (ci := 3) (C := RX2) (T := TX2) (N := 13) hx hb hts iRX2 hown hw 0 (by omega) dt31 rfl 4 (by decide) (hts (.fieldLink RX2 80 "LibraryDesk" "trialFailedWith" "I") (by decide +kernel)) (fun _ h9 => h9) rfl dX2_tryActs_34 ?_
      refine lv_if_ne (tgt := 81) hx hb dX2_tryActs_37 (by decide) (fun c37 => ?_) (fun c37 => ?_)
      · refine we_v hx hb hr hlocks hw ?_ dX2_tryActs_81
        rw [hres]
        exact ⟨nI pp, hCf, fun _ => rfl, fun j hj => hfr j hj⟩
      · exact absurd c37 hw1
  have key : ∀ (f i : Nat), i + f = (pl c1).2.1 → ∀ (en1 : Nat → va_E) (Zi : Ast) (xi : Int64) (tp1 : Int32), Aok Zi → DeskC q ad en1 nb tb A Zi pl cs xi 0 tp1 → aRun (pl c1) z a f i Zi xi = (tR (pl c1) z a A) → (∀ j, 42 ≤ j → en1 j = en j) → ∀ (H : Heap) (locs : List Loc), wk (dC, dI) vwCl (wT q) ad en1 n AA s H locs → ∀ ls : Array Slot, lv_has ls 6 [(5, .int (nI i)), (0, .ref (ad 0)), (1, .ref (ad (2 + 3 * c1))), (2, .int z), (3, .long a)] → W p l e (headSpec wsX2_tryActs ({ frames := 4, cells := 0, slots := 0, locals := 90 })).room s m ([.ref (ad 0), .ref (ad (2 + 3 * c1)), .int z, .long a].toArray) below meth c H locs 0 0 (MQ below (va_Qv (fun (en' : Nat → va_E) => ∃ tp2 : Int32, DeskC q ad en' nb tb A (tR (pl c1) z a A).2.2.1 pl cs (tR (pl c1) z a A).2.2.2 (tR (pl c1) z a A).1 tp2 ∧ (¬ (tR (pl c1) z a A).1 = 0 → tp2 = nI (tR (pl c1) z a A).2.1) ∧ ∀ j, 42 ≤ j → en' j = en j) (wB (dC, dI) vwCl (wT q) ad n AA) AA) ([.ref (ad 0), .ref (ad (2 + 3 * c1)), .int z, .long a].toArray) s 0 0 AA) (F0 m 24 ls []) := by
    intro f
    induction f with
    | zero =>
      intro i hif en1 Zi xi tp1 hokZ hCf hres hfr H locs hw ls hl
      have hpk6 := hpk.1
      have hi6 : i ≤ 6 := by omega
      obtain ⟨-, dt33, ⟨gt33, et33, hgt33⟩, hpt33, hNt33, hTt33⟩ := id hCf
      obtain ⟨mft33, vht33, tft33, vft33, n0t33, n1t33, n2t33, n3t33, n4t33, hRt33⟩ := id hNt33
      obtain ⟨sfu34, kfu34, p0u34, p1u34, p2u34, p3u34⟩ := id (hpt33 c1 hc)
      refine lv_iload hx hb dX2_tryActs_24 (lv_at hl 0 rfl) ?_
      refine lv_aload_n hx hb dX2_tryActs_26 rfl (lv_at hl 2 rfl) ?_
      refine wr_get (ci := 2) (C := RX1) (T := TX1) (N := 6) hx hb hts iRX1 hown hw (2 + 3 * c1) (by omega) p0u34 rfl 1 (by decide) (hts (.fieldLink RX2 51 "LibraryDesk$Plan" "actCount" "I") (by decide +kernel)) (fun _ h9 => h9) rfl dX2_tryActs_27 ?_
      refine lv_icmp_ge (tgt := 81) hx hb dX2_tryActs_30 (by decide) (fun c30 => ?_) (fun c30 => ?_)
      · refine we_v hx hb hr hlocks hw ?_ dX2_tryActs_81
        have hres : (0, i, Zi, xi) = (tR (pl c1) z a A) := hres
        rw [← hres]
        exact ⟨tp1, hCf, fun h => absurd rfl h, fun j hj => hfr j hj⟩
      · exact absurd (nI_le (by omega) (by omega)) c30
    | succ f ih =>
      intro i hif en1 Zi xi tp1 hokZ hCf hres hfr H locs hw ls hl
      have hpk6 := hpk.1
      have hi6 : i ≤ 6 := by omega
      obtain ⟨-, dt35, ⟨gt35, et35, hgt35⟩, hpt35, hNt35, hTt35⟩ := id hCf
      obtain ⟨mft35, vht35, tft35, vft35, n0t35, n1t35, n2t35, n3t35, n4t35, hRt35⟩ := id hNt35
      obtain ⟨sfu36, kfu36, p0u36, p1u36, p2u36, p3u36⟩ := id (hpt35 c1 hc)
      refine lv_iload hx hb dX2_tryActs_24 (lv_at hl 0 rfl) ?_
      refine lv_aload_n hx hb dX2_tryActs_26 rfl (lv_at hl 2 rfl) ?_
      refine wr_get (ci := 2) (C := RX1) (T := TX1) (N := 6) hx hb hts iRX1 hown hw (2 + 3 * c1) (by omega) p0u36 rfl 1 (by decide) (hts (.fieldLink RX2 51 "LibraryDesk$Plan" "actCount" "I") (by decide +kernel)) (fun _ h9 => h9) rfl dX2_tryActs_27 ?_
      refine lv_icmp_ge (tgt := 81) hx hb dX2_tryActs_30 (by decide) (fun c30 => ?_) (fun c30 => ?_)
      · exact absurd ((nI_leI (by omega) (by omega)).mp c30) (by omega)
      · refine lv_aload_n hx hb dX2_tryActs_33 rfl (lv_at hl 1 rfl) ?_
        refine wr_get (ci := 3) (C := RX2) (T := TX2) (N := 13) hx hb hts iRX2 hown hw 0 (by omega) dt35 rfl 4 (by decide) (hts (.fieldLink RX2 80 "LibraryDesk" "trialFailedWith" "I") (by decide +kernel)) (fun _ h9 => h9) rfl dX2_tryActs_34 ?_
        refine lv_if_ne (tgt := 81) hx hb dX2_tryActs_37 (by decide) (fun c37 => ?_) (fun c37 => ?_)
        · exact absurd rfl c37
        · refine lv_aload_n hx hb dX2_tryActs_40 rfl (lv_at hl 1 rfl) ?_
          refine lv_iload hx hb dX2_tryActs_41 (lv_at hl 0 rfl) ?_
          refine wr_put (ci := 3) (v := .int (nI i)) (ty := .int) (C := RX2) (T := TX2) (N := 13) hx hb hts iRX2 tyX2 tyX2_ok nmX2 hown hw 0 (by omega) dt35 rfl 5 (by decide) (hts (.fieldLink RX2 138 "LibraryDesk" "trialFailedAt" "I") (by decide +kernel)) (fun _ h9 => h9) rfl (by decide +kernel) rfl rfl (Nat.le_of_ble_eq_true rfl) dX2_tryActs_43 (fun en38 H locs hE37 hw => ?_)
          have he39 : en38 0 = .inr (3, [.ref (ad 1), .ref (ad nb), .ref (ad tb), .long xi, .int 0, .int (nI i), .int (cs 0), .int (cs 1), .int (cs 2), .int (cs 3), .int (cs 4), .int (cs 5), .int (cs 6)]) := w_self hE37
          have he40 : en38 1 = .inl (q.2.2.2, 10, .inr (.inr (.inr (.inr gt35)))) := w_ne hE37 (by omega) et35
          have he41 : en38 nb = .inr (1, [.ref (ad (nb + 1)), .ref (ad (nb + 2)), .ref (ad (nb + 3)), .ref (ad (nb + 4)), .int (nI (aCn A))]) := w_ne hE37 (by omega) n0t35
          have he42 : en38 (nb + 1) = .inl (q.1, 8, .inl mft35) := w_ne hE37 (by omega) n1t35
          have he43 : en38 (nb + 2) = .inl (q.2.1, 8, .inr (.inl vht35)) := w_ne hE37 (by omega) n2t35
          have he44 : en38 (nb + 3) = .inl (q.2.1, 8, .inr (.inl tft35)) := w_ne hE37 (by omega) n3t35
          have he45 : en38 (nb + 4) = .inl (q.2.1, 20, .inr (.inl vft35)) := w_ne hE37 (by omega) n4t35
          have he46 : en38 (2 + 3 * c1) = .inr (2, [.int ((pl c1).1), .int (nI (pl c1).2.1), .ref (ad (2 + 3 * c1 + 1)), .ref (ad (2 + 3 * c1 + 2)), .int ((pl c1).2.2.2.2.1), .int ((pl c1).2.2.2.2.2)]) := w_ne hE37 (by omega) p0u36
          have he47 : en38 (2 + 3 * c1 + 1) = .inl (q.1, 6, .inl sfu36) := w_ne hE37 (by omega) p1u36
          have he48 : en38 (2 + 3 * c1 + 2) = .inl (q.1, 6, .inl kfu36) := w_ne hE37 (by omega) p2u36
          have hC3 := DeskC_obj hCf ⟨rfl, rfl⟩ he39 (fun j hj => w_fr hE37 (by omega))
          obtain ⟨-, dt49, ⟨gt49, et49, hgt49⟩, hpt49, hNt49, hTt49⟩ := id hC3
          obtain ⟨mft49, vht49, tft49, vft49, n0t49, n1t49, n2t49, n3t49, n4t49, hRt49⟩ := id hNt49
          obtain ⟨sfu50, kfu50, p0u50, p1u50, p2u50, p3u50⟩ := id (hpt49 c1 hc)
          refine lv_aload_n hx hb dX2_tryActs_46 rfl (lv_at hl 1 rfl) ?_
          refine lv_aload_n hx hb dX2_tryActs_47 rfl (lv_at hl 2 rfl) ?_
          refine lv_iload hx hb dX2_tryActs_48 (lv_at hl 0 rfl) ?_
          refine wc_i hw (va_runV (As := [.int (nI i)]) (rest := [.ref (ad 0)]) ⟨hx, hb, hml, hown, hts⟩ (kX1_isToldToFailAt l dC dI q ad en38 n _ (2 + 3 * c1) (by omega) (pl c1) (hpt49 c1 hc) (nI i)) (cwV 1 hts gX2_tryActs_X1_isToldToFailAt rfl rfl rfl (by decide +kernel) ⟨Nat.le_of_ble_eq_true rfl, Nat.le_of_ble_eq_true rfl⟩) (wk_preV hw (by omega) p0u50 rfl) rfl rfl hl.1 rfl (lv_room (Nat.le_of_ble_eq_true rfl)) dX2_tryActs_50 ⟨Nat.le_refl _, Nat.le_refl _⟩) (fun r51 en53 H locs hp52 hw => ?_)
          obtain ⟨hr54, hn55⟩ := hp52
          rw [hn55] at hw
          clear hn55
          refine lv_if_eq (tgt := 63) hx hb dX2_tryActs_53 (by decide) (fun c53 => ?_) (fun c53 => ?_)
          · have htold := z01_f hr54 c53
            refine lv_aload_n hx hb dX2_tryActs_63 rfl (lv_at hl 1 rfl) ?_
            refine lv_aload_n hx hb dX2_tryActs_64 rfl (lv_at hl 2 rfl) ?_
            refine lv_iload hx hb dX2_tryActs_65 (lv_at hl 0 rfl) ?_
            refine lv_iload_n hx hb dX2_tryActs_67 rfl (lv_at hl 3 rfl) ?_
            refine lv_lload_n hx hb dX2_tryActs_68 rfl (lv_at hl 4 rfl) ?_
            refine wc_i hw (va_runV (As := [.ref (ad (2 + 3 * c1)), .int (nI i), .int z, .long a]) (rest := [.ref (ad 0)]) ⟨hx, hb, hml, hown, hts⟩ (kX2_doAct l dC dI q ad en38 n _ hn42 nb tb A Zi pl cs xi 0 (nI i) hC3 hokZ c1 hc hpk i (by omega) z a) (cwV 4 hts gX2_tryActs_X2_doAct rfl rfl rfl (by decide +kernel) ⟨Nat.le_of_ble_eq_true rfl, Nat.le_of_ble_eq_true rfl⟩) (wk_preV hw (by omega) dt49 rfl) rfl rfl hl.1 rfl (lv_room (Nat.le_of_ble_eq_true rfl)) dX2_tryActs_69 ⟨Nat.le_refl _, Nat.le_refl _⟩) (fun r56 en58 H locs hp57 hw => ?_)
            obtain ⟨hr1, hC4, hfr4⟩ := hp57
            obtain ⟨-, dt59, ⟨gt59, et59, hgt59⟩, hpt59, hNt59, hTt59⟩ := id hC4
            obtain ⟨mft59, vht59, tft59, vft59, n0t59, n1t59, n2t59, n3t59, n4t59, hRt59⟩ := id hNt59
            obtain ⟨sfu60, kfu60, p0u60, p1u60, p2u60, p3u60⟩ := id (hpt59 c1 hc)
            refine wr_put (ci := 3) (v := .int r56) (ty := .int) (C := RX2) (T := TX2) (N := 13) hx hb hts iRX2 tyX2 tyX2_ok nmX2 hown hw 0 (by omega) dt59 rfl 4 (by decide) (hts (.fieldLink RX2 80 "LibraryDesk" "trialFailedWith" "I") (by decide +kernel)) (fun _ h9 => h9) rfl (by decide +kernel) rfl rfl (Nat.le_of_ble_eq_true rfl) dX2_tryActs_72 (fun en62 H locs hE61 hw => ?_)
            have he63 : en62 0 = .inr (3, [.ref (ad 1), .ref (ad nb), .ref (ad tb), .long ((aDo (pl c1) i z a Zi xi).2.2), .int r56, .int (nI i), .int (cs 0), .int (cs 1), .int (cs 2), .int (cs 3), .int (cs 4), .int (cs 5), .int (cs 6)]) := w_self hE61
            have he64 : en62 1 = .inl (q.2.2.2, 10, .inr (.inr (.inr (.inr gt59)))) := w_ne hE61 (by omega) et59
            have he65 : en62 nb = .inr (1, [.ref (ad (nb + 1)), .ref (ad (nb + 2)), .ref (ad (nb + 3)), .ref (ad (nb + 4)), .int (nI (aCn A))]) := w_ne hE61 (by omega) n0t59
            have he66 : en62 (nb + 1) = .inl (q.1, 8, .inl mft59) := w_ne hE61 (by omega) n1t59
            have he67 : en62 (nb + 2) = .inl (q.2.1, 8, .inr (.inl vht59)) := w_ne hE61 (by omega) n2t59
            have he68 : en62 (nb + 3) = .inl (q.2.1, 8, .inr (.inl tft59)) := w_ne hE61 (by omega) n3t59
            have he69 : en62 (nb + 4) = .inl (q.2.1, 20, .inr (.inl vft59)) := w_ne hE61 (by omega) n4t59
            have he70 : en62 (2 + 3 * c1) = .inr (2, [.int ((pl c1).1), .int (nI (pl c1).2.1), .ref (ad (2 + 3 * c1 + 1)), .ref (ad (2 + 3 * c1 + 2)), .int ((pl c1).2.2.2.2.1), .int ((pl c1).2.2.2.2.2)]) := w_ne hE61 (by omega) p0u60
            have he71 : en62 (2 + 3 * c1 + 1) = .inl (q.1, 6, .inl sfu60) := w_ne hE61 (by omega) p1u60
            have he72 : en62 (2 + 3 * c1 + 2) = .inl (q.1, 6, .inl kfu60) := w_ne hE61 (by omega) p2u60
            refine lv_iinc (v := nI (i + 1)) (lv' := [(5, .int (nI (i + 1))), (0, .ref (ad 0)), (1, .ref (ad (2 + 3 * c1))), (2, .int z), (3, .long a)]) hx hb dX2_tryActs_75 hl (k := 0) rfl (nI_1 i) (by decide) rfl (fun ls hl => ?_)
            refine lv_goto (tgt := 24) hx hb dX2_tryActs_78 (by decide) ?_
            have hC5 := DeskC_obj hC4 ⟨rfl, rfl⟩ he63 (fun j hj => w_fr hE61 (by omega))
            by_cases hz : r56 = 0
            · have hz2 : (aDo (pl c1) i z a Zi xi).1 = 0 := hr1.symm.trans hz
              rw [aRun_s (by exact htold) hz2] at hres
              rw [hz] at hC5
              exact ih (i + 1) (by omega) _ _ _ _ (Aok_do hokZ) hC5 hres (fun j hj => (w_fr hE61 (by omega)).trans ((hfr4 j hj).trans ((w_fr hE37 (by omega)).trans (hfr j hj)))) _ _ hw ls (lv_sub hl [0, 1, 2, 3, 4] rfl)
            · have hz2 : ¬ (aDo (pl c1) i z a Zi xi).1 = 0 := fun h => hz (hr1.trans h)
              rw [aRun_f (by exact htold) hz2, ← hr1] at hres
              exact keyF (i + 1) _ _ _ _ i hC5 hz hres.symm (fun j hj => (w_fr hE61 (by omega)).trans ((hfr4 j hj).trans ((w_fr hE37 (by omega)).trans (hfr j hj)))) _ _ hw ls (lv_sub hl [0, 1, 2, 3, 4] rfl)
          · have htold := z01_t hr54 c53
            have htw : ¬ (pl c1).2.2.2.2.2 = 0 := told_ne hpk htold (by omega)
            have hres2 : (tR (pl c1) z a A) = ((pl c1).2.2.2.2.2, i, Zi, xi) := by rw [← hres]; exact aRun_t htold
            refine lv_aload_n hx hb dX2_tryActs_56 rfl (lv_at hl 2 rfl) ?_
            refine wr_get (ci := 2) (C := RX1) (T := TX1) (N := 6) hx hb hts iRX1 hown hw (2 + 3 * c1) (by omega) p0u50 rfl 5 (by decide) (hts (.fieldLink RX2 144 "LibraryDesk$Plan" "toldWith" "I") (by decide +kernel)) (fun _ h9 => h9) rfl dX2_tryActs_57 ?_
            refine lv_goto (tgt := 72) hx hb dX2_tryActs_60 (by decide) ?_
            refine wr_put (ci := 3) (v := .int ((pl c1).2.2.2.2.2)) (ty := .int) (C := RX2) (T := TX2) (N := 13) hx hb hts iRX2 tyX2 tyX2_ok nmX2 hown hw 0 (by omega) dt49 rfl 4 (by decide) (hts (.fieldLink RX2 80 "LibraryDesk" "trialFailedWith" "I") (by decide +kernel)) (fun _ h9 => h9) rfl (by decide +kernel) rfl rfl (Nat.le_of_ble_eq_true rfl) dX2_tryActs_72 (fun en74 H locs hE73 hw => ?_)
            have he75 : en74 0 = .inr (3, [.ref (ad 1), .ref (ad nb), .ref (ad tb), .long xi, .int ((pl c1).2.2.2.2.2), .int (nI i), .int (cs 0), .int (cs 1), .int (cs 2), .int (cs 3), .int (cs 4), .int (cs 5), .int (cs 6)]) := w_self hE73
            have he76 : en74 1 = .inl (q.2.2.2, 10, .inr (.inr (.inr (.inr gt49)))) := w_ne hE73 (by omega) et49
            have he77 : en74 nb = .inr (1, [.ref (ad (nb + 1)), .ref (ad (nb + 2)), .ref (ad (nb + 3)), .ref (ad (nb + 4)), .int (nI (aCn A))]) := w_ne hE73 (by omega) n0t49
            have he78 : en74 (nb + 1) = .inl (q.1, 8, .inl mft49) := w_ne hE73 (by omega) n1t49
            have he79 : en74 (nb + 2) = .inl (q.2.1, 8, .inr (.inl vht49)) := w_ne hE73 (by omega) n2t49
            have he80 : en74 (nb + 3) = .inl (q.2.1, 8, .inr (.inl tft49)) := w_ne hE73 (by omega) n3t49
            have he81 : en74 (nb + 4) = .inl (q.2.1, 20, .inr (.inl vft49)) := w_ne hE73 (by omega) n4t49
            have he82 : en74 (2 + 3 * c1) = .inr (2, [.int ((pl c1).1), .int (nI (pl c1).2.1), .ref (ad (2 + 3 * c1 + 1)), .ref (ad (2 + 3 * c1 + 2)), .int ((pl c1).2.2.2.2.1), .int ((pl c1).2.2.2.2.2)]) := w_ne hE73 (by omega) p0u50
            have he83 : en74 (2 + 3 * c1 + 1) = .inl (q.1, 6, .inl sfu50) := w_ne hE73 (by omega) p1u50
            have he84 : en74 (2 + 3 * c1 + 2) = .inl (q.1, 6, .inl kfu50) := w_ne hE73 (by omega) p2u50
            refine lv_iinc (v := nI (i + 1)) (lv' := [(5, .int (nI (i + 1))), (0, .ref (ad 0)), (1, .ref (ad (2 + 3 * c1))), (2, .int z), (3, .long a)]) hx hb dX2_tryActs_75 hl (k := 0) rfl (nI_1 i) (by decide) rfl (fun ls hl => ?_)
            refine lv_goto (tgt := 24) hx hb dX2_tryActs_78 (by decide) ?_
            exact keyF (i + 1) _ Zi xi _ i (DeskC_obj hC3 ⟨rfl, rfl⟩ he75 (fun j hj => w_fr hE73 (by omega))) htw hres2 (fun j hj => (w_fr hE73 (by omega)).trans ((w_fr hE37 (by omega)).trans (hfr j hj))) _ _ hw ls (lv_sub hl [0, 1, 2, 3, 4] rfl)
  exact key _ 0 (by omega) _ A a _ hok hC2 rfl (fun j hj => (w_fr hE19 (by omega)).trans ((w_fr hE7 (by omega)).trans (hfr1 j (by omega)))) _ _ hw ls (lv_sub hl [0, 1, 2, 3, 4] rfl)
