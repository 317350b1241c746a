def sRowR (i : Int32) (A : Ast) : Int64 := if 0 ≤ i ∧ i < nI (aCn A) then aRw A i.toNatClampNeg else 0
def sRowT (i : Int32) (A : Ast) : Int32 := if 0 ≤ i ∧ i < nI (aCn A) then 0 else 1
theorem upd_congr7 {gF cs : Nat → Int32} (h : ∀ i, i < 7 → gF i = cs i) (k : Nat) (x : Int32) : ∀ i, i < 7 → upd gF k x i = upd cs k x i := fun i hi => by
  by_cases e : i = k
  · rw [e, pk_us, pk_us]
  · rw [pk_un e, pk_un e]; exact h i hi
theorem told_fail {gF cs : Nat → Int32} (h : ∀ i, i < 7 → gF i = cs i) (wy pa c z : Int32) : ∀ i, i < 7 → upd (upd (upd (upd (upd gF 2 (cs 2 + 1)) 3 wy) 4 pa) 5 c) 6 z i = nfC cs wy pa c z i := fun i hi => by
  have h0 := h i hi
  unfold nfC
  by_cases e6 : i = 6
  · rw [e6, pk_us]; rfl
  · rw [pk_un e6]
    by_cases e5 : i = 5
    · rw [e5, pk_us]; rfl
    · rw [pk_un e5]
      by_cases e4 : i = 4
      · rw [e4, pk_us]; rfl
      · rw [pk_un e4]
        by_cases e3 : i = 3
        · rw [e3, pk_us]; rfl
        · rw [pk_un e3]
          by_cases e2 : i = 2
          · rw [e2, pk_us]; rfl
          · rw [pk_un e2, h0, if_neg e2, if_neg e3, if_neg e4, if_neg e5, if_neg e6]
theorem aDo_why (P : Pst) (i : Nat) (z : Int32) (a : Int64) (A : Ast) (x : Int64) : (aDo P i z a A x).1 = 0 ∨ ¬ (aDo P i z a A x).1 < 6 := by
  unfold aDo
  split
  · show (if _ then (0 : Int32) else 6) = 0 ∨ ¬ (if _ then (0 : Int32) else 6) < 6
    split
    · exact Or.inl rfl
    · exact Or.inr (by decide)
  · split
    · split
      · exact Or.inr (show ¬ (7 : Int32) < 6 by decide)
      · exact Or.inl rfl
    · split
      · exact Or.inl rfl
      · split
        · show (if _ then (0 : Int32) else 8) = 0 ∨ ¬ (if _ then (0 : Int32) else 8) < 6
          split
          · exact Or.inl rfl
          · exact Or.inr (by decide)
        · split
          · exact Or.inl rfl
          · split
            · exact Or.inl rfl
            · show (if _ then (0 : Int32) else 7) = 0 ∨ ¬ (if _ then (0 : Int32) else 7) < 6
              split
              · exact Or.inl rfl
              · exact Or.inr (by decide)
theorem run_told {P : Pst} (hp : Pok P) {z : Int32} {a : Int64} : ∀ (f i : Nat) (A : Ast) (x : Int64), i + f < 2 ^ 31 → ¬ (aRun P z a f i A x).1 = 0 → ((aRun P z a f i A x).1 < 6 ↔ P.2.2.2.2.1 = nI (aRun P z a f i A x).2.1)
  | 0, i, A, x, _, h => absurd rfl h
  | f + 1, i, A, x, hb, h => by
    by_cases ht : P.2.2.2.2.1 = nI i
    · rw [aRun_t ht]
      refine ⟨fun _ => ht, fun _ => ?_⟩
      rcases hp.2.2 with h1 | h1
      · exfalso
        rw [ht] at h1
        have e2 := congrArg Int32.toInt h1
        rw [nI_toInt (by omega)] at e2
        have e3 : (-1 : Int32).toInt = -1 := by decide
        rw [e3] at e2
        omega
      · exact Int32.lt_of_le_of_lt h1.2.2 (by decide)
    · by_cases hd : (aDo P i z a A x).1 = 0
      · rw [aRun_s ht hd] at h ⊢
        exact run_told hp f (i + 1) _ _ (by omega) h
      · rw [aRun_f ht hd]
        exact ⟨fun w => absurd w ((aDo_why P i z a A x).resolve_left hd), fun w => absurd w ht⟩
theorem tR_told {P : Pst} (hp : Pok P) {z : Int32} {a : Int64} {A : Ast} (h : ¬ (tR P z a A).1 = 0) : (tR P z a A).1 < 6 ↔ P.2.2.2.2.1 = nI (tR P z a A).2.1 := run_told hp P.2.1 0 A a (by have := hp.1; omega) h
theorem Aok_tR {P : Pst} {z : Int32} {a : Int64} {A : Ast} (h : Aok A) : Aok (tR P z a A).2.2.1 := Aok_run _ _ _ _ h
theorem le5_6 {i : Int32} (h : 5 < i) : 6 ≤ i := by
  have h2 := Int32.lt_iff_toInt_lt.mp h
  refine Int32.le_iff_toInt_le.mpr ?_
  have e5 : (5 : Int32).toInt = 5 := by decide
  have e6 : (6 : Int32).toInt = 6 := by decide
  rw [e5] at h2
  rw [e6]
  omega
theorem lt7_6 {i : Int32} (h : i < 7) : i ≤ 6 := by
  have h2 := Int32.lt_iff_toInt_lt.mp h
  refine Int32.le_iff_toInt_le.mpr ?_
  have e5 : (7 : Int32).toInt = 7 := by decide
  have e6 : (6 : Int32).toInt = 6 := by decide
  rw [e5] at h2
  rw [e6]
  omega
set_option maxHeartbeats 4000000 in
set_option maxRecDepth 100000 in
theorem kX3_thrown (l : Launch) (dC : Nat → ClassId) (dI : Nat → Nat → Nat) (q : ClassId × ClassId × ClassId × ClassId) (ad : Nat → Nat) (en : Nat → va_E) (n sz : Nat) (hn58 : 58 ≤ n) (th : Int32) (A : Ast) (pl : Nat → Pst) (cs : Nat → Int32) (hok : Aok A) (hpok : ∀ i, i < 10 → Pok (pl i)) (hM0 : ModAt q ad en th A pl cs)  :
    Met l yX3_thrown wsX3_thrown ({ frames := 0, cells := 0, slots := 0, locals := 0 }) (wPc (dC, dI) vwCl (wT q) ad en n sz [.ref (ad 42)]) (va_Qi (fun (r : Int32) (en' : Nat → va_E) => r = th ∧ en' = en) (wB (dC, dI) vwCl (wT q) ad n (wA ad n sz)) (wA ad n sz)) 0 0 (wA ad n sz) := by
  refine Met.ofW (cc := cX3_thrown) (maxL := 1) (ret := (some .int)) (by decide) rfl ?_
  intro p e s m args below meth c s₁ B hml hv
  obtain ⟨rfl, hsz, hP, hK, hD0, hE0⟩ := hv
  have hx := B.exec
  have hb := B.bytes
  have hr := B.returns
  have hts := atoms_spec (ws := wsX3_thrown) B.pre
  have hown : s.vm.findClass RX3 = some m.cls := findClass_of_methodNamed B.named
  have hlocks := B.notSynchronized
  have iRX3 : ∀ w ∈ u_ws RX3 TX3 21, w ∈ wsX3_thrown := by decide +kernel
  subst hsz
  have hw := wk_of hP hK hD0 hE0
  generalize wA ad n s.heap.size = AA at hw ⊢
  have hl := lv_entry ([.ref (ad 42)]) (n := 1) (Nat.le_of_ble_eq_true rfl)
  rw [lg_entry_eq]
  generalize (lg_sl ([.ref (ad 42)]) ++ List.replicate (1 - (lg_sl ([.ref (ad 42)])).length) Slot.unset).toArray = ls at hl ⊢
  have hl : lv_has ls 1 [(0, .ref (ad 42))] := hl
  obtain ⟨O, an, wy, pla, hokO, hM⟩ := hM0
  have hcn := hok.2
  obtain ⟨ot1, ⟨hFt1, mFt1, tFt1, rFt1, a1t1, a2t1, a3t1, a4t1, hRt1⟩, ⟨oht1, omt1, ott1, orrt1, b1t1, b2t1, b3t1, b4t1, hOt1⟩, ⟨wFt1, sFt1, kFt1, aFt1, fFt1, xFt1, c1t1, c2t1, c3t1, c4t1, c5t1, c6t1, hPlt1⟩, ⟨gFt1, e1t1, hTt1⟩⟩ := id hM
  refine lv_aload_n hx hb dX3_thrown_0 rfl (lv_at hl 0 rfl) ?_
  refine wr_get (ci := 4) (C := RX3) (T := TX3) (N := 21) hx hb hts iRX3 hown hw 42 (by omega) ot1 rfl 0 (by decide) (hts (.fieldLink RX3 57 "LibraryDeskModel" "thrown" "I") (by decide +kernel)) (fun _ h9 => h9) rfl dX3_thrown_1 ?_
  refine we_i hx hb hr hlocks hw ?_ dX3_thrown_4
  exact ⟨rfl, rfl⟩

set_option maxHeartbeats 4000000 in
set_option maxRecDepth 100000 in
theorem kX3_collect (l : Launch) (dC : Nat → ClassId) (dI : Nat → Nat → Nat) (q : ClassId × ClassId × ClassId × ClassId) (ad : Nat → Nat) (en : Nat → va_E) (n sz : Nat) (hn58 : 58 ≤ n) (th : Int32) (A : Ast) (pl : Nat → Pst) (cs : Nat → Int32) (hok : Aok A) (hpok : ∀ i, i < 10 → Pok (pl i)) (hM0 : ModAt q ad en th A pl cs) (v : Int64) :
    Met l yX3_collect wsX3_collect ({ frames := 0, cells := 0, slots := 0, locals := 0 }) (wPc (dC, dI) vwCl (wT q) ad en n sz [.ref (ad 42), .long v]) (va_Qi (fun (r : Int32) (en' : Nat → va_E) => r = (if aCn A < 20 then nI (aCn A + 1) else -1) ∧ ModAt q ad en' 0 (aAdd v A) pl cs ∧ ∀ j, (j < 42 ∨ 58 ≤ j) → en' j = en j) (wB (dC, dI) vwCl (wT q) ad n (wA ad n sz)) (wA ad n sz)) 0 0 (wA ad n sz) := by
  refine Met.ofW (cc := cX3_collect) (maxL := 3) (ret := (some .int)) (by decide) rfl ?_
  intro p e s m args below meth c s₁ B hml hv
  obtain ⟨rfl, hsz, hP, hK, hD0, hE0⟩ := hv
  have hx := B.exec
  have hb := B.bytes
  have hr := B.returns
  have hts := atoms_spec (ws := wsX3_collect) B.pre
  have hown : s.vm.findClass RX3 = some m.cls := findClass_of_methodNamed B.named
  have hlocks := B.notSynchronized
  have iRX3 : ∀ w ∈ u_ws RX3 TX3 21, w ∈ wsX3_collect := by decide +kernel
  subst hsz
  have hw := wk_of hP hK hD0 hE0
  generalize wA ad n s.heap.size = AA at hw ⊢
  have hl := lv_entry ([.ref (ad 42), .long v]) (n := 3) (Nat.le_of_ble_eq_true rfl)
  rw [lg_entry_eq]
  generalize (lg_sl ([.ref (ad 42), .long v]) ++ List.replicate (3 - (lg_sl ([.ref (ad 42), .long v])).length) Slot.unset).toArray = ls at hl ⊢
  have hl : lv_has ls 3 [(0, .ref (ad 42)), (1, .long v)] := hl
  obtain ⟨O, an, wy, pla, hokO, hM⟩ := hM0
  have hcn := hok.2
  obtain ⟨ot1, ⟨hFt1, mFt1, tFt1, rFt1, a1t1, a2t1, a3t1, a4t1, hRt1⟩, ⟨oht1, omt1, ott1, orrt1, b1t1, b2t1, b3t1, b4t1, hOt1⟩, ⟨wFt1, sFt1, kFt1, aFt1, fFt1, xFt1, c1t1, c2t1, c3t1, c4t1, c5t1, c6t1, hPlt1⟩, ⟨gFt1, e1t1, hTt1⟩⟩ := id hM
  refine lv_aload_n hx hb dX3_collect_0 rfl (lv_at hl 0 rfl) ?_
  refine lv_iconst (v := 0) hx hb dX3_collect_1 (by decide) ?_
  refine wr_put (ci := 4) (v := .int 0) (ty := .int) (C := RX3) (T := TX3) (N := 21) hx hb hts iRX3 tyX3 tyX3_ok nmX3 hown hw 42 (by omega) ot1 rfl 0 (by decide) (hts (.fieldLink RX3 57 "LibraryDeskModel" "thrown" "I") (by decide +kernel)) (fun _ h9 => h9) rfl (by decide +kernel) rfl rfl (Nat.le_of_ble_eq_true rfl) dX3_collect_2 (fun en3 H locs hE2 hw => ?_)
  have he4 : en3 42 = .inr (4, [.int 0, .ref (ad 43), .ref (ad 44), .ref (ad 45), .ref (ad 46), .int (nI (aCn A)), .ref (ad 47), .ref (ad 48), .ref (ad 49), .ref (ad 50), .int (nI (aCn O)), .ref (ad 51), .ref (ad 52), .ref (ad 53), .ref (ad 54), .ref (ad 55), .ref (ad 56), .ref (ad 57), .long an, .int wy, .int pla]) := w_self hE2
  have he5 : en3 43 = .inl (q.2.2.1, 328, .inl hFt1) := w_ne hE2 (by omega) a1t1
  have he6 : en3 44 = .inl (q.1, 8, .inl mFt1) := w_ne hE2 (by omega) a2t1
  have he7 : en3 45 = .inl (q.2.1, 8, .inr (.inl tFt1)) := w_ne hE2 (by omega) a3t1
  have he8 : en3 46 = .inl (q.2.1, 20, .inr (.inl rFt1)) := w_ne hE2 (by omega) a4t1
  have he9 : en3 47 = .inl (q.2.2.1, 328, .inl oht1) := w_ne hE2 (by omega) b1t1
  have he10 : en3 48 = .inl (q.1, 8, .inl omt1) := w_ne hE2 (by omega) b2t1
  have he11 : en3 49 = .inl (q.2.1, 8, .inr (.inl ott1)) := w_ne hE2 (by omega) b3t1
  have he12 : en3 50 = .inl (q.2.1, 20, .inr (.inl orrt1)) := w_ne hE2 (by omega) b4t1
  have he13 : en3 51 = .inl (q.1, 10, .inl wFt1) := w_ne hE2 (by omega) c1t1
  have he14 : en3 52 = .inl (q.1, 60, .inl sFt1) := w_ne hE2 (by omega) c2t1
  have he15 : en3 53 = .inl (q.1, 60, .inl kFt1) := w_ne hE2 (by omega) c3t1
  have he16 : en3 54 = .inl (q.1, 10, .inl aFt1) := w_ne hE2 (by omega) c4t1
  have he17 : en3 55 = .inl (q.1, 10, .inl fFt1) := w_ne hE2 (by omega) c5t1
  have he18 : en3 56 = .inl (q.1, 10, .inl xFt1) := w_ne hE2 (by omega) c6t1
  have he19 : en3 57 = .inl (q.1, 7, .inl gFt1) := w_ne hE2 (by omega) e1t1
  have hMz : ModC q ad en3 0 A O pl cs an wy pla := ⟨he4, ⟨_, _, _, _, he5, he6, he7, he8, hRt1⟩, ⟨_, _, _, _, he9, he10, he11, he12, hOt1⟩, ⟨_, _, _, _, _, _, he13, he14, he15, he16, he17, he18, hPlt1⟩, ⟨_, he19, hTt1⟩⟩
  obtain ⟨ot20, ⟨hFt20, mFt20, tFt20, rFt20, a1t20, a2t20, a3t20, a4t20, hRt20⟩, ⟨oht20, omt20, ott20, orrt20, b1t20, b2t20, b3t20, b4t20, hOt20⟩, ⟨wFt20, sFt20, kFt20, aFt20, fFt20, xFt20, c1t20, c2t20, c3t20, c4t20, c5t20, c6t20, hPlt20⟩, ⟨gFt20, e1t20, hTt20⟩⟩ := id hMz
  refine lv_aload_n hx hb dX3_collect_5 rfl (lv_at hl 0 rfl) ?_
  refine wr_get (ci := 4) (C := RX3) (T := TX3) (N := 21) hx hb hts iRX3 hown hw 42 (by omega) ot20 rfl 5 (by decide) (hts (.fieldLink RX3 61 "LibraryDeskModel" "size" "I") (by decide +kernel)) (fun _ h9 => h9) rfl dX3_collect_6 ?_
  refine lv_bipush (v := 20) hx hb dX3_collect_9 (by decide) ?_
  refine lv_icmp_ne (tgt := 16) hx hb dX3_collect_11 (by decide) (fun c11 => ?_) (fun c11 => ?_)
  · have hc : aCn A < 20 := by
      have : ¬ aCn A = 20 := fun h => c11 (by rw [h]; rfl)
      omega
    refine lv_aload_n hx hb dX3_collect_16 rfl (lv_at hl 0 rfl) ?_
    refine wr_get (ci := 4) (C := RX3) (T := TX3) (N := 21) hx hb hts iRX3 hown hw 42 (by omega) ot20 rfl 4 (by decide) (hts (.fieldLink RX3 21 "LibraryDeskModel" "row" "[J") (by decide +kernel)) (fun _ h9 => h9) rfl dX3_collect_17 ?_
    refine lv_aload_n hx hb dX3_collect_20 rfl (lv_at hl 0 rfl) ?_
    refine wr_get (ci := 4) (C := RX3) (T := TX3) (N := 21) hx hb hts iRX3 hown hw 42 (by omega) ot20 rfl 5 (by decide) (hts (.fieldLink RX3 61 "LibraryDeskModel" "size" "I") (by decide +kernel)) (fun _ h9 => h9) rfl dX3_collect_21 ?_
    refine lv_lload_n hx hb dX3_collect_24 rfl (lv_at hl 1 rfl) ?_
    refine wr_last (j := (aCn A)) hx hb hw 46 (by omega) 1 a4t20 rfl (vp_in_nI (by omega) (by decide)) (nI_clamp (by omega)) dX3_collect_25 (fun en22 H locs hE21 hw => ?_)
    have he23 : en22 42 = .inr (4, [.int 0, .ref (ad 43), .ref (ad 44), .ref (ad 45), .ref (ad 46), .int (nI (aCn A)), .ref (ad 47), .ref (ad 48), .ref (ad 49), .ref (ad 50), .int (nI (aCn O)), .ref (ad 51), .ref (ad 52), .ref (ad 53), .ref (ad 54), .ref (ad 55), .ref (ad 56), .ref (ad 57), .long an, .int wy, .int pla]) := w_ne hE21 (by omega) ot20
    have he24 : en22 43 = .inl (q.2.2.1, 328, .inl hFt20) := w_ne hE21 (by omega) a1t20
    have he25 : en22 44 = .inl (q.1, 8, .inl mFt20) := w_ne hE21 (by omega) a2t20
    have he26 : en22 45 = .inl (q.2.1, 8, .inr (.inl tFt20)) := w_ne hE21 (by omega) a3t20
    have he27 : en22 46 = .inl (q.2.1, 20, .inr (.inl (vp_updL rFt20 ((aCn A)) v))) := w_self hE21
    have he28 : en22 47 = .inl (q.2.2.1, 328, .inl oht20) := w_ne hE21 (by omega) b1t20
    have he29 : en22 48 = .inl (q.1, 8, .inl omt20) := w_ne hE21 (by omega) b2t20
    have he30 : en22 49 = .inl (q.2.1, 8, .inr (.inl ott20)) := w_ne hE21 (by omega) b3t20
    have he31 : en22 50 = .inl (q.2.1, 20, .inr (.inl orrt20)) := w_ne hE21 (by omega) b4t20
    have he32 : en22 51 = .inl (q.1, 10, .inl wFt20) := w_ne hE21 (by omega) c1t20
    have he33 : en22 52 = .inl (q.1, 60, .inl sFt20) := w_ne hE21 (by omega) c2t20
    have he34 : en22 53 = .inl (q.1, 60, .inl kFt20) := w_ne hE21 (by omega) c3t20
    have he35 : en22 54 = .inl (q.1, 10, .inl aFt20) := w_ne hE21 (by omega) c4t20
    have he36 : en22 55 = .inl (q.1, 10, .inl fFt20) := w_ne hE21 (by omega) c5t20
    have he37 : en22 56 = .inl (q.1, 10, .inl xFt20) := w_ne hE21 (by omega) c6t20
    have he38 : en22 57 = .inl (q.1, 7, .inl gFt20) := w_ne hE21 (by omega) e1t20
    refine lv_aload_n hx hb dX3_collect_26 rfl (lv_at hl 0 rfl) ?_
    refine lv_dup hx hb dX3_collect_27 rfl ?_
    refine wr_get (ci := 4) (C := RX3) (T := TX3) (N := 21) hx hb hts iRX3 hown hw 42 (by omega) he23 rfl 5 (by decide) (hts (.fieldLink RX3 61 "LibraryDeskModel" "size" "I") (by decide +kernel)) (fun _ h9 => h9) rfl dX3_collect_28 ?_
    refine lv_iconst (v := 1) hx hb dX3_collect_31 (by decide) ?_
    refine lv_iadd hx hb dX3_collect_32 ?_
    refine lv_topi (fun x39 ex39 => ?_)
    have ex39n : x39 = nI (aCn A + 1) := ex39.trans (nI_1 _)
    clear ex39
    subst ex39n
    refine wr_put (ci := 4) (v := .int (nI (aCn A + 1))) (ty := .int) (C := RX3) (T := TX3) (N := 21) hx hb hts iRX3 tyX3 tyX3_ok nmX3 hown hw 42 (by omega) he23 rfl 5 (by decide) (hts (.fieldLink RX3 61 "LibraryDeskModel" "size" "I") (by decide +kernel)) (fun _ h9 => h9) rfl (by decide +kernel) rfl rfl (Nat.le_of_ble_eq_true rfl) dX3_collect_33 (fun en41 H locs hE40 hw => ?_)
    have he42 : en41 42 = .inr (4, [.int 0, .ref (ad 43), .ref (ad 44), .ref (ad 45), .ref (ad 46), .int (nI (aCn A + 1)), .ref (ad 47), .ref (ad 48), .ref (ad 49), .ref (ad 50), .int (nI (aCn O)), .ref (ad 51), .ref (ad 52), .ref (ad 53), .ref (ad 54), .ref (ad 55), .ref (ad 56), .ref (ad 57), .long an, .int wy, .int pla]) := w_self hE40
    have he43 : en41 43 = .inl (q.2.2.1, 328, .inl hFt20) := w_ne hE40 (by omega) he24
    have he44 : en41 44 = .inl (q.1, 8, .inl mFt20) := w_ne hE40 (by omega) he25
    have he45 : en41 45 = .inl (q.2.1, 8, .inr (.inl tFt20)) := w_ne hE40 (by omega) he26
    have he46 : en41 46 = .inl (q.2.1, 20, .inr (.inl (vp_updL rFt20 ((aCn A)) v))) := w_ne hE40 (by omega) he27
    have he47 : en41 47 = .inl (q.2.2.1, 328, .inl oht20) := w_ne hE40 (by omega) he28
    have he48 : en41 48 = .inl (q.1, 8, .inl omt20) := w_ne hE40 (by omega) he29
    have he49 : en41 49 = .inl (q.2.1, 8, .inr (.inl ott20)) := w_ne hE40 (by omega) he30
    have he50 : en41 50 = .inl (q.2.1, 20, .inr (.inl orrt20)) := w_ne hE40 (by omega) he31
    have he51 : en41 51 = .inl (q.1, 10, .inl wFt20) := w_ne hE40 (by omega) he32
    have he52 : en41 52 = .inl (q.1, 60, .inl sFt20) := w_ne hE40 (by omega) he33
    have he53 : en41 53 = .inl (q.1, 60, .inl kFt20) := w_ne hE40 (by omega) he34
    have he54 : en41 54 = .inl (q.1, 10, .inl aFt20) := w_ne hE40 (by omega) he35
    have he55 : en41 55 = .inl (q.1, 10, .inl fFt20) := w_ne hE40 (by omega) he36
    have he56 : en41 56 = .inl (q.1, 10, .inl xFt20) := w_ne hE40 (by omega) he37
    have he57 : en41 57 = .inl (q.1, 7, .inl gFt20) := w_ne hE40 (by omega) he38
    refine lv_aload_n hx hb dX3_collect_36 rfl (lv_at hl 0 rfl) ?_
    refine wr_get (ci := 4) (C := RX3) (T := TX3) (N := 21) hx hb hts iRX3 hown hw 42 (by omega) he42 rfl 5 (by decide) (hts (.fieldLink RX3 61 "LibraryDeskModel" "size" "I") (by decide +kernel)) (fun _ h9 => h9) rfl dX3_collect_37 ?_
    refine we_i hx hb hr hlocks hw ?_ dX3_collect_40
    refine ⟨by rw [if_pos hc], ⟨O, an, wy, pla, hokO, ?_⟩, fun j hj => (w_fr hE40 (by omega)).trans ((w_fr hE21 (by omega)).trans (w_fr hE2 (by omega)))⟩
    exact ⟨(by rw [aCn_add hc]; exact he42), ⟨_, _, _, _, he43, he44, he45, he46, RM_add hRt20 hc v⟩, ⟨_, _, _, _, he47, he48, he49, he50, hOt20⟩, ⟨_, _, _, _, _, _, he51, he52, he53, he54, he55, he56, hPlt20⟩, ⟨_, he57, hTt20⟩⟩
  · have hc : ¬ aCn A < 20 := fun h => absurd ((nI_eq (b := 20) (by omega) (by omega)).mp c11) (by omega)
    refine lv_iconst (v := (-1)) hx hb dX3_collect_14 (by decide) ?_
    refine we_i hx hb hr hlocks hw ?_ dX3_collect_15
    exact ⟨by rw [if_neg hc], by rw [aAdd_no hc]; exact ⟨O, an, wy, pla, hokO, hMz⟩, fun j hj => w_fr hE2 (by omega)⟩

set_option maxHeartbeats 4000000 in
set_option maxRecDepth 100000 in
theorem kX3_wants (l : Launch) (dC : Nat → ClassId) (dI : Nat → Nat → Nat) (q : ClassId × ClassId × ClassId × ClassId) (ad : Nat → Nat) (en : Nat → va_E) (n sz : Nat) (hn58 : 58 ≤ n) (th : Int32) (A : Ast) (pl : Nat → Pst) (cs : Nat → Int32) (hok : Aok A) (hpok : ∀ i, i < 10 → Pok (pl i)) (hM0 : ModAt q ad en th A pl cs) (cv kd : Int32) :
    Met l yX3_wants wsX3_wants ({ frames := 1, cells := 0, slots := 0, locals := 20 }) (wPc (dC, dI) vwCl (wT q) ad en n sz [.ref (ad 42), .int cv, .int kd]) (va_Qi (fun (r : Int32) (en' : Nat → va_E) => r = sWantsR cv kd pl ∧ ModAt q ad en' 0 A (sWants cv kd pl) cs ∧ ∀ j, (j < 42 ∨ 58 ≤ j) → en' j = en j) (wB (dC, dI) vwCl (wT q) ad n (wA ad n sz)) (wA ad n sz)) 0 0 (wA ad n sz) := by
  refine Met.ofW (cc := cX3_wants) (maxL := 4) (ret := (some .int)) (by decide) rfl ?_
  intro p e s m args below meth c s₁ B hml hv
  obtain ⟨rfl, hsz, hP, hK, hD0, hE0⟩ := hv
  have hx := B.exec
  have hb := B.bytes
  have hr := B.returns
  have hts := atoms_spec (ws := wsX3_wants) B.pre
  have hown : s.vm.findClass RX3 = some m.cls := findClass_of_methodNamed B.named
  have hlocks := B.notSynchronized
  have iRX3 : ∀ w ∈ u_ws RX3 TX3 21, w ∈ wsX3_wants := by decide +kernel
  subst hsz
  have hw := wk_of hP hK hD0 hE0
  generalize wA ad n s.heap.size = AA at hw ⊢
  have hl := lv_entry ([.ref (ad 42), .int cv, .int kd]) (n := 4) (Nat.le_of_ble_eq_true rfl)
  rw [lg_entry_eq]
  generalize (lg_sl ([.ref (ad 42), .int cv, .int kd]) ++ List.replicate (4 - (lg_sl ([.ref (ad 42), .int cv, .int kd])).length) Slot.unset).toArray = ls at hl ⊢
  have hl : lv_has ls 4 [(0, .ref (ad 42)), (1, .int cv), (2, .int kd)] := hl
  obtain ⟨O, an, wy, pla, hokO, hM⟩ := hM0
  have hcn := hok.2
  obtain ⟨ot1, ⟨hFt1, mFt1, tFt1, rFt1, a1t1, a2t1, a3t1, a4t1, hRt1⟩, ⟨oht1, omt1, ott1, orrt1, b1t1, b2t1, b3t1, b4t1, hOt1⟩, ⟨wFt1, sFt1, kFt1, aFt1, fFt1, xFt1, c1t1, c2t1, c3t1, c4t1, c5t1, c6t1, hPlt1⟩, ⟨gFt1, e1t1, hTt1⟩⟩ := id hM
  refine lv_aload_n hx hb dX3_wants_0 rfl (lv_at hl 0 rfl) ?_
  refine lv_iconst (v := 0) hx hb dX3_wants_1 (by decide) ?_
  refine wr_put (ci := 4) (v := .int 0) (ty := .int) (C := RX3) (T := TX3) (N := 21) hx hb hts iRX3 tyX3 tyX3_ok nmX3 hown hw 42 (by omega) ot1 rfl 0 (by decide) (hts (.fieldLink RX3 57 "LibraryDeskModel" "thrown" "I") (by decide +kernel)) (fun _ h9 => h9) rfl (by decide +kernel) rfl rfl (Nat.le_of_ble_eq_true rfl) dX3_wants_2 (fun en3 H locs hE2 hw => ?_)
  have he4 : en3 42 = .inr (4, [.int 0, .ref (ad 43), .ref (ad 44), .ref (ad 45), .ref (ad 46), .int (nI (aCn A)), .ref (ad 47), .ref (ad 48), .ref (ad 49), .ref (ad 50), .int (nI (aCn O)), .ref (ad 51), .ref (ad 52), .ref (ad 53), .ref (ad 54), .ref (ad 55), .ref (ad 56), .ref (ad 57), .long an, .int wy, .int pla]) := w_self hE2
  have he5 : en3 43 = .inl (q.2.2.1, 328, .inl hFt1) := w_ne hE2 (by omega) a1t1
  have he6 : en3 44 = .inl (q.1, 8, .inl mFt1) := w_ne hE2 (by omega) a2t1
  have he7 : en3 45 = .inl (q.2.1, 8, .inr (.inl tFt1)) := w_ne hE2 (by omega) a3t1
  have he8 : en3 46 = .inl (q.2.1, 20, .inr (.inl rFt1)) := w_ne hE2 (by omega) a4t1
  have he9 : en3 47 = .inl (q.2.2.1, 328, .inl oht1) := w_ne hE2 (by omega) b1t1
  have he10 : en3 48 = .inl (q.1, 8, .inl omt1) := w_ne hE2 (by omega) b2t1
  have he11 : en3 49 = .inl (q.2.1, 8, .inr (.inl ott1)) := w_ne hE2 (by omega) b3t1
  have he12 : en3 50 = .inl (q.2.1, 20, .inr (.inl orrt1)) := w_ne hE2 (by omega) b4t1
  have he13 : en3 51 = .inl (q.1, 10, .inl wFt1) := w_ne hE2 (by omega) c1t1
  have he14 : en3 52 = .inl (q.1, 60, .inl sFt1) := w_ne hE2 (by omega) c2t1
  have he15 : en3 53 = .inl (q.1, 60, .inl kFt1) := w_ne hE2 (by omega) c3t1
  have he16 : en3 54 = .inl (q.1, 10, .inl aFt1) := w_ne hE2 (by omega) c4t1
  have he17 : en3 55 = .inl (q.1, 10, .inl fFt1) := w_ne hE2 (by omega) c5t1
  have he18 : en3 56 = .inl (q.1, 10, .inl xFt1) := w_ne hE2 (by omega) c6t1
  have he19 : en3 57 = .inl (q.1, 7, .inl gFt1) := w_ne hE2 (by omega) e1t1
  have hMz : ModC q ad en3 0 A O pl cs an wy pla := ⟨he4, ⟨_, _, _, _, he5, he6, he7, he8, hRt1⟩, ⟨_, _, _, _, he9, he10, he11, he12, hOt1⟩, ⟨_, _, _, _, _, _, he13, he14, he15, he16, he17, he18, hPlt1⟩, ⟨_, he19, hTt1⟩⟩
  obtain ⟨ot20, ⟨hFt20, mFt20, tFt20, rFt20, a1t20, a2t20, a3t20, a4t20, hRt20⟩, ⟨oht20, omt20, ott20, orrt20, b1t20, b2t20, b3t20, b4t20, hOt20⟩, ⟨wFt20, sFt20, kFt20, aFt20, fFt20, xFt20, c1t20, c2t20, c3t20, c4t20, c5t20, c6t20, hPlt20⟩, ⟨gFt20, e1t20, hTt20⟩⟩ := id hMz
  refine lv_iload_n hx hb dX3_wants_5 rfl (lv_at hl 1 rfl) ?_
  refine wc_i hw (va_runS (As := [.int cv]) (rest := []) ⟨hx, hb, hml, hown, hts⟩ (kX3_isCall l dC dI q ad en3 n _ cv) (va_cwS 1 hts gX3_wants_X3_isCall rfl rfl rfl (by decide +kernel) ⟨Nat.le_of_ble_eq_true rfl, Nat.le_of_ble_eq_true rfl⟩) (wk_preS hw) rfl rfl hl.1 rfl (lv_room (Nat.le_of_ble_eq_true rfl)) dX3_wants_6 ⟨Nat.le_refl _, Nat.le_refl _⟩) (fun r21 en23 H locs hp22 hw => ?_)
  obtain ⟨hr24, hn25⟩ := hp22
  rw [hn25] at hw
  clear hn25
  refine lv_if_eq (tgt := 24) hx hb dX3_wants_9 (by decide) (fun c9 => ?_) (fun c9 => ?_)
  · have hcv := z01_f hr24 c9
    refine lv_bipush (v := (-2)) hx hb dX3_wants_24 (by decide) ?_
    refine we_i hx hb hr hlocks hw ?_ dX3_wants_26
    have hS := sWants_no (pl := pl) (c := cv) (kd := kd) (fun h => hcv h.1)
    exact ⟨hS.1.symm, by rw [hS.2]; exact ⟨O, an, wy, pla, hokO, hMz⟩, fun j hj => w_fr hE2 (by omega)⟩
  · have hcv := z01_t hr24 c9
    obtain ⟨c1, hc, ecv⟩ := okC_of hcv
    subst ecv
    refine lv_iload_n hx hb dX3_wants_12 rfl (lv_at hl 2 rfl) ?_
    refine lv_iconst (v := (-1)) hx hb dX3_wants_13 (by decide) ?_
    refine lv_icmp_eq (tgt := 27) hx hb dX3_wants_14 (by decide) (fun c14 => ?_) (fun c14 => ?_)
    · have hkd : kd = -1 ∨ okK kd := Or.inl c14
      refine lv_aload_n hx hb dX3_wants_27 rfl (lv_at hl 0 rfl) ?_
      refine wr_get (ci := 4) (C := RX3) (T := TX3) (N := 21) hx hb hts iRX3 hown hw 42 (by omega) ot20 rfl 11 (by decide) (hts (.fieldLink RX3 36 "LibraryDeskModel" "wanted" "[I") (by decide +kernel)) (fun _ h9 => h9) rfl dX3_wants_28 ?_
      refine lv_iload_n hx hb dX3_wants_31 rfl (lv_at hl 1 rfl) ?_
      refine wr_iald (v := (pl c1).1) hx hb hw 51 (by omega) 0 c1t20 rfl (vp_in_nI (by omega) (by decide)) (by rw [(nI_clamp (by omega))]; exact (hPlt20 c1 hc).1) dX3_wants_32 ?_
      refine lv_istore_n (lv' := [(3, .int ((pl c1).1)), (0, .ref (ad 42)), (1, .int (nI c1)), (2, .int kd)]) hx hb dX3_wants_33 rfl hl (by decide) rfl (fun ls hl => ?_)
      refine lv_aload_n hx hb dX3_wants_34 rfl (lv_at hl 1 rfl) ?_
      refine wr_get (ci := 4) (C := RX3) (T := TX3) (N := 21) hx hb hts iRX3 hown hw 42 (by omega) ot20 rfl 11 (by decide) (hts (.fieldLink RX3 36 "LibraryDeskModel" "wanted" "[I") (by decide +kernel)) (fun _ h9 => h9) rfl dX3_wants_35 ?_
      refine lv_iload_n hx hb dX3_wants_38 rfl (lv_at hl 2 rfl) ?_
      refine lv_iload_n hx hb dX3_wants_39 rfl (lv_at hl 3 rfl) ?_
      refine wr_iast (j := c1) hx hb hw 51 (by omega) 0 c1t20 rfl (vp_in_nI (by omega) (by decide)) (nI_clamp (by omega)) dX3_wants_40 (fun en27 H locs hE26 hw => ?_)
      have he28 : en27 42 = .inr (4, [.int 0, .ref (ad 43), .ref (ad 44), .ref (ad 45), .ref (ad 46), .int (nI (aCn A)), .ref (ad 47), .ref (ad 48), .ref (ad 49), .ref (ad 50), .int (nI (aCn O)), .ref (ad 51), .ref (ad 52), .ref (ad 53), .ref (ad 54), .ref (ad 55), .ref (ad 56), .ref (ad 57), .long an, .int wy, .int pla]) := w_ne hE26 (by omega) ot20
      have he29 : en27 43 = .inl (q.2.2.1, 328, .inl hFt20) := w_ne hE26 (by omega) a1t20
      have he30 : en27 44 = .inl (q.1, 8, .inl mFt20) := w_ne hE26 (by omega) a2t20
      have he31 : en27 45 = .inl (q.2.1, 8, .inr (.inl tFt20)) := w_ne hE26 (by omega) a3t20
      have he32 : en27 46 = .inl (q.2.1, 20, .inr (.inl rFt20)) := w_ne hE26 (by omega) a4t20
      have he33 : en27 47 = .inl (q.2.2.1, 328, .inl oht20) := w_ne hE26 (by omega) b1t20
      have he34 : en27 48 = .inl (q.1, 8, .inl omt20) := w_ne hE26 (by omega) b2t20
      have he35 : en27 49 = .inl (q.2.1, 8, .inr (.inl ott20)) := w_ne hE26 (by omega) b3t20
      have he36 : en27 50 = .inl (q.2.1, 20, .inr (.inl orrt20)) := w_ne hE26 (by omega) b4t20
      have he37 : en27 51 = .inl (q.1, 10, .inl (upd wFt20 c1 kd)) := w_self hE26
      have he38 : en27 52 = .inl (q.1, 60, .inl sFt20) := w_ne hE26 (by omega) c2t20
      have he39 : en27 53 = .inl (q.1, 60, .inl kFt20) := w_ne hE26 (by omega) c3t20
      have he40 : en27 54 = .inl (q.1, 10, .inl aFt20) := w_ne hE26 (by omega) c4t20
      have he41 : en27 55 = .inl (q.1, 10, .inl fFt20) := w_ne hE26 (by omega) c5t20
      have he42 : en27 56 = .inl (q.1, 10, .inl xFt20) := w_ne hE26 (by omega) c6t20
      have he43 : en27 57 = .inl (q.1, 7, .inl gFt20) := w_ne hE26 (by omega) e1t20
      refine lv_iload_n hx hb dX3_wants_41 rfl (lv_at hl 0 rfl) ?_
      refine we_i hx hb hr hlocks hw ?_ dX3_wants_42
      have hS := sWants_ok (pl := pl) hc hkd
      refine ⟨hS.1.symm, ?_, fun j hj => (w_fr hE26 (by omega)).trans (w_fr hE2 (by omega))⟩
      rw [hS.2]
      obtain ⟨k1, k2, k3, k4, k5⟩ := hPlt20 c1 hc
      exact ⟨O, _, _, _, hokO, ⟨he28, ⟨_, _, _, _, he29, he30, he31, he32, hRt20⟩, ⟨_, _, _, _, he33, he34, he35, he36, hOt20⟩, ⟨_, _, _, _, _, _, he37, he38, he39, he40, he41, he42, MPl_up hPlt20 hc (fun j e => ⟨pk_un e, rfl, rfl, rfl⟩) ⟨pk_us, k2, k3, k4, k5⟩⟩, ⟨_, he43, hTt20⟩⟩⟩
    · refine lv_iload_n hx hb dX3_wants_17 rfl (lv_at hl 2 rfl) ?_
      refine wc_i hw (va_runS (As := [.int kd]) (rest := []) ⟨hx, hb, hml, hown, hts⟩ (kX3_isKind l dC dI q ad en3 n _ kd) (va_cwS 1 hts gX3_wants_X3_isKind rfl rfl rfl (by decide +kernel) ⟨Nat.le_of_ble_eq_true rfl, Nat.le_of_ble_eq_true rfl⟩) (wk_preS hw) rfl rfl hl.1 rfl (lv_room (Nat.le_of_ble_eq_true rfl)) dX3_wants_18 ⟨Nat.le_refl _, Nat.le_refl _⟩) (fun r44 en46 H locs hp45 hw => ?_)
      obtain ⟨hr47, hn48⟩ := hp45
      rw [hn48] at hw
      clear hn48
      refine lv_if_ne (tgt := 27) hx hb dX3_wants_21 (by decide) (fun c21 => ?_) (fun c21 => ?_)
      · have hkd : kd = -1 ∨ okK kd := Or.inr (z01_t hr47 c21)
        refine lv_aload_n hx hb dX3_wants_27 rfl (lv_at hl 0 rfl) ?_
        refine wr_get (ci := 4) (C := RX3) (T := TX3) (N := 21) hx hb hts iRX3 hown hw 42 (by omega) ot20 rfl 11 (by decide) (hts (.fieldLink RX3 36 "LibraryDeskModel" "wanted" "[I") (by decide +kernel)) (fun _ h9 => h9) rfl dX3_wants_28 ?_
        refine lv_iload_n hx hb dX3_wants_31 rfl (lv_at hl 1 rfl) ?_
        refine wr_iald (v := (pl c1).1) hx hb hw 51 (by omega) 0 c1t20 rfl (vp_in_nI (by omega) (by decide)) (by rw [(nI_clamp (by omega))]; exact (hPlt20 c1 hc).1) dX3_wants_32 ?_
        refine lv_istore_n (lv' := [(3, .int ((pl c1).1)), (0, .ref (ad 42)), (1, .int (nI c1)), (2, .int kd)]) hx hb dX3_wants_33 rfl hl (by decide) rfl (fun ls hl => ?_)
        refine lv_aload_n hx hb dX3_wants_34 rfl (lv_at hl 1 rfl) ?_
        refine wr_get (ci := 4) (C := RX3) (T := TX3) (N := 21) hx hb hts iRX3 hown hw 42 (by omega) ot20 rfl 11 (by decide) (hts (.fieldLink RX3 36 "LibraryDeskModel" "wanted" "[I") (by decide +kernel)) (fun _ h9 => h9) rfl dX3_wants_35 ?_
        refine lv_iload_n hx hb dX3_wants_38 rfl (lv_at hl 2 rfl) ?_
        refine lv_iload_n hx hb dX3_wants_39 rfl (lv_at hl 3 rfl) ?_
        refine wr_iast (j := c1) hx hb hw 51 (by omega) 0 c1t20 rfl (vp_in_nI (by omega) (by decide)) (nI_clamp (by omega)) dX3_wants_40 (fun en50 H locs hE49 hw => ?_)
        have he51 : en50 42 = .inr (4, [.int 0, .ref (ad 43), .ref (ad 44), .ref (ad 45), .ref (ad 46), .int (nI (aCn A)), .ref (ad 47), .ref (ad 48), .ref (ad 49), .ref (ad 50), .int (nI (aCn O)), .ref (ad 51), .ref (ad 52), .ref (ad 53), .ref (ad 54), .ref (ad 55), .ref (ad 56), .ref (ad 57), .long an, .int wy, .int pla]) := w_ne hE49 (by omega) ot20
        have he52 : en50 43 = .inl (q.2.2.1, 328, .inl hFt20) := w_ne hE49 (by omega) a1t20
        have he53 : en50 44 = .inl (q.1, 8, .inl mFt20) := w_ne hE49 (by omega) a2t20
        have he54 : en50 45 = .inl (q.2.1, 8, .inr (.inl tFt20)) := w_ne hE49 (by omega) a3t20
        have he55 : en50 46 = .inl (q.2.1, 20, .inr (.inl rFt20)) := w_ne hE49 (by omega) a4t20
        have he56 : en50 47 = .inl (q.2.2.1, 328, .inl oht20) := w_ne hE49 (by omega) b1t20
        have he57 : en50 48 = .inl (q.1, 8, .inl omt20) := w_ne hE49 (by omega) b2t20
        have he58 : en50 49 = .inl (q.2.1, 8, .inr (.inl ott20)) := w_ne hE49 (by omega) b3t20
        have he59 : en50 50 = .inl (q.2.1, 20, .inr (.inl orrt20)) := w_ne hE49 (by omega) b4t20
        have he60 : en50 51 = .inl (q.1, 10, .inl (upd wFt20 c1 kd)) := w_self hE49
        have he61 : en50 52 = .inl (q.1, 60, .inl sFt20) := w_ne hE49 (by omega) c2t20
        have he62 : en50 53 = .inl (q.1, 60, .inl kFt20) := w_ne hE49 (by omega) c3t20
        have he63 : en50 54 = .inl (q.1, 10, .inl aFt20) := w_ne hE49 (by omega) c4t20
        have he64 : en50 55 = .inl (q.1, 10, .inl fFt20) := w_ne hE49 (by omega) c5t20
        have he65 : en50 56 = .inl (q.1, 10, .inl xFt20) := w_ne hE49 (by omega) c6t20
        have he66 : en50 57 = .inl (q.1, 7, .inl gFt20) := w_ne hE49 (by omega) e1t20
        refine lv_iload_n hx hb dX3_wants_41 rfl (lv_at hl 0 rfl) ?_
        refine we_i hx hb hr hlocks hw ?_ dX3_wants_42
        have hS := sWants_ok (pl := pl) hc hkd
        refine ⟨hS.1.symm, ?_, fun j hj => (w_fr hE49 (by omega)).trans (w_fr hE2 (by omega))⟩
        rw [hS.2]
        obtain ⟨k1, k2, k3, k4, k5⟩ := hPlt20 c1 hc
        exact ⟨O, _, _, _, hokO, ⟨he51, ⟨_, _, _, _, he52, he53, he54, he55, hRt20⟩, ⟨_, _, _, _, he56, he57, he58, he59, hOt20⟩, ⟨_, _, _, _, _, _, he60, he61, he62, he63, he64, he65, MPl_up hPlt20 hc (fun j e => ⟨pk_un e, rfl, rfl, rfl⟩) ⟨pk_us, k2, k3, k4, k5⟩⟩, ⟨_, he66, hTt20⟩⟩⟩
      · have hkd : ¬ (kd = -1 ∨ okK kd) := fun h => h.elim c14 (z01_f hr47 c21)
        refine lv_bipush (v := (-2)) hx hb dX3_wants_24 (by decide) ?_
        refine we_i hx hb hr hlocks hw ?_ dX3_wants_26
        have hS := sWants_no (pl := pl) (c := nI c1) (kd := kd) (fun h => hkd h.2)
        exact ⟨hS.1.symm, by rw [hS.2]; exact ⟨O, an, wy, pla, hokO, hMz⟩, fun j hj => w_fr hE2 (by omega)⟩

set_option maxHeartbeats 4000000 in
set_option maxRecDepth 100000 in
theorem kX3_act (l : Launch) (dC : Nat → ClassId) (dI : Nat → Nat → Nat) (q : ClassId × ClassId × ClassId × ClassId) (ad : Nat → Nat) (en : Nat → va_E) (n sz : Nat) (hn58 : 58 ≤ n) (th : Int32) (A : Ast) (pl : Nat → Pst) (cs : Nat → Int32) (hok : Aok A) (hpok : ∀ i, i < 10 → Pok (pl i)) (hM0 : ModAt q ad en th A pl cs) (cv so kd : Int32) :
    Met l yX3_act wsX3_act ({ frames := 1, cells := 0, slots := 0, locals := 20 }) (wPc (dC, dI) vwCl (wT q) ad en n sz [.ref (ad 42), .int cv, .int so, .int kd]) (va_Qi (fun (r : Int32) (en' : Nat → va_E) => r = sActR cv so kd pl ∧ ModAt q ad en' 0 A (sAct cv so kd pl) cs ∧ ∀ j, (j < 42 ∨ 58 ≤ j) → en' j = en j) (wB (dC, dI) vwCl (wT q) ad n (wA ad n sz)) (wA ad n sz)) 0 0 (wA ad n sz) := by
  refine Met.ofW (cc := cX3_act) (maxL := 5) (ret := (some .int)) (by decide) rfl ?_
  intro p e s m args below meth c s₁ B hml hv
  obtain ⟨rfl, hsz, hP, hK, hD0, hE0⟩ := hv
  have hx := B.exec
  have hb := B.bytes
  have hr := B.returns
  have hts := atoms_spec (ws := wsX3_act) B.pre
  have hown : s.vm.findClass RX3 = some m.cls := findClass_of_methodNamed B.named
  have hlocks := B.notSynchronized
  have iRX3 : ∀ w ∈ u_ws RX3 TX3 21, w ∈ wsX3_act := by decide +kernel
  subst hsz
  have hw := wk_of hP hK hD0 hE0
  generalize wA ad n s.heap.size = AA at hw ⊢
  have hl := lv_entry ([.ref (ad 42), .int cv, .int so, .int kd]) (n := 5) (Nat.le_of_ble_eq_true rfl)
  rw [lg_entry_eq]
  generalize (lg_sl ([.ref (ad 42), .int cv, .int so, .int kd]) ++ List.replicate (5 - (lg_sl ([.ref (ad 42), .int cv, .int so, .int kd])).length) Slot.unset).toArray = ls at hl ⊢
  have hl : lv_has ls 5 [(0, .ref (ad 42)), (1, .int cv), (2, .int so), (3, .int kd)] := hl
  obtain ⟨O, an, wy, pla, hokO, hM⟩ := hM0
  have hcn := hok.2
  obtain ⟨ot1, ⟨hFt1, mFt1, tFt1, rFt1, a1t1, a2t1, a3t1, a4t1, hRt1⟩, ⟨oht1, omt1, ott1, orrt1, b1t1, b2t1, b3t1, b4t1, hOt1⟩, ⟨wFt1, sFt1, kFt1, aFt1, fFt1, xFt1, c1t1, c2t1, c3t1, c4t1, c5t1, c6t1, hPlt1⟩, ⟨gFt1, e1t1, hTt1⟩⟩ := id hM
  refine lv_aload_n hx hb dX3_act_0 rfl (lv_at hl 0 rfl) ?_
  refine lv_iconst (v := 0) hx hb dX3_act_1 (by decide) ?_
  refine wr_put (ci := 4) (v := .int 0) (ty := .int) (C := RX3) (T := TX3) (N := 21) hx hb hts iRX3 tyX3 tyX3_ok nmX3 hown hw 42 (by omega) ot1 rfl 0 (by decide) (hts (.fieldLink RX3 57 "LibraryDeskModel" "thrown" "I") (by decide +kernel)) (fun _ h9 => h9) rfl (by decide +kernel) rfl rfl (Nat.le_of_ble_eq_true rfl) dX3_act_2 (fun en3 H locs hE2 hw => ?_)
  have he4 : en3 42 = .inr (4, [.int 0, .ref (ad 43), .ref (ad 44), .ref (ad 45), .ref (ad 46), .int (nI (aCn A)), .ref (ad 47), .ref (ad 48), .ref (ad 49), .ref (ad 50), .int (nI (aCn O)), .ref (ad 51), .ref (ad 52), .ref (ad 53), .ref (ad 54), .ref (ad 55), .ref (ad 56), .ref (ad 57), .long an, .int wy, .int pla]) := w_self hE2
  have he5 : en3 43 = .inl (q.2.2.1, 328, .inl hFt1) := w_ne hE2 (by omega) a1t1
  have he6 : en3 44 = .inl (q.1, 8, .inl mFt1) := w_ne hE2 (by omega) a2t1
  have he7 : en3 45 = .inl (q.2.1, 8, .inr (.inl tFt1)) := w_ne hE2 (by omega) a3t1
  have he8 : en3 46 = .inl (q.2.1, 20, .inr (.inl rFt1)) := w_ne hE2 (by omega) a4t1
  have he9 : en3 47 = .inl (q.2.2.1, 328, .inl oht1) := w_ne hE2 (by omega) b1t1
  have he10 : en3 48 = .inl (q.1, 8, .inl omt1) := w_ne hE2 (by omega) b2t1
  have he11 : en3 49 = .inl (q.2.1, 8, .inr (.inl ott1)) := w_ne hE2 (by omega) b3t1
  have he12 : en3 50 = .inl (q.2.1, 20, .inr (.inl orrt1)) := w_ne hE2 (by omega) b4t1
  have he13 : en3 51 = .inl (q.1, 10, .inl wFt1) := w_ne hE2 (by omega) c1t1
  have he14 : en3 52 = .inl (q.1, 60, .inl sFt1) := w_ne hE2 (by omega) c2t1
  have he15 : en3 53 = .inl (q.1, 60, .inl kFt1) := w_ne hE2 (by omega) c3t1
  have he16 : en3 54 = .inl (q.1, 10, .inl aFt1) := w_ne hE2 (by omega) c4t1
  have he17 : en3 55 = .inl (q.1, 10, .inl fFt1) := w_ne hE2 (by omega) c5t1
  have he18 : en3 56 = .inl (q.1, 10, .inl xFt1) := w_ne hE2 (by omega) c6t1
  have he19 : en3 57 = .inl (q.1, 7, .inl gFt1) := w_ne hE2 (by omega) e1t1
  have hMz : ModC q ad en3 0 A O pl cs an wy pla := ⟨he4, ⟨_, _, _, _, he5, he6, he7, he8, hRt1⟩, ⟨_, _, _, _, he9, he10, he11, he12, hOt1⟩, ⟨_, _, _, _, _, _, he13, he14, he15, he16, he17, he18, hPlt1⟩, ⟨_, he19, hTt1⟩⟩
  obtain ⟨ot20, ⟨hFt20, mFt20, tFt20, rFt20, a1t20, a2t20, a3t20, a4t20, hRt20⟩, ⟨oht20, omt20, ott20, orrt20, b1t20, b2t20, b3t20, b4t20, hOt20⟩, ⟨wFt20, sFt20, kFt20, aFt20, fFt20, xFt20, c1t20, c2t20, c3t20, c4t20, c5t20, c6t20, hPlt20⟩, ⟨gFt20, e1t20, hTt20⟩⟩ := id hMz
  refine lv_iload_n hx hb dX3_act_5 rfl (lv_at hl 1 rfl) ?_
  refine wc_i hw (va_runS (As := [.int cv]) (rest := []) ⟨hx, hb, hml, hown, hts⟩ (kX3_isCall l dC dI q ad en3 n _ cv) (va_cwS 1 hts gX3_act_X3_isCall rfl rfl rfl (by decide +kernel) ⟨Nat.le_of_ble_eq_true rfl, Nat.le_of_ble_eq_true rfl⟩) (wk_preS hw) rfl rfl hl.1 rfl (lv_room (Nat.le_of_ble_eq_true rfl)) dX3_act_6 ⟨Nat.le_refl _, Nat.le_refl _⟩) (fun r21 en23 H locs hp22 hw => ?_)
  obtain ⟨hr24, hn25⟩ := hp22
  rw [hn25] at hw
  clear hn25
  refine lv_if_eq (tgt := 40) hx hb dX3_act_9 (by decide) (fun c9 => ?_) (fun c9 => ?_)
  · have hcv := z01_f hr24 c9
    refine lv_iconst (v := (-1)) hx hb dX3_act_40 (by decide) ?_
    refine we_i hx hb hr hlocks hw ?_ dX3_act_41
    have hS := sAct_no (pl := pl) (c := cv) (so := so) (kd := kd) (fun h => hcv h.1)
    exact ⟨hS.1.symm, by rw [hS.2]; exact ⟨O, an, wy, pla, hokO, hMz⟩, fun j hj => w_fr hE2 (by omega)⟩
  · have hcv := z01_t hr24 c9
    obtain ⟨c1, hc, ecv⟩ := okC_of hcv
    subst ecv
    have hp6 := (hpok c1 hc).1
    refine lv_iload_n hx hb dX3_act_12 rfl (lv_at hl 2 rfl) ?_
    refine lv_if_lt (tgt := 40) hx hb dX3_act_13 (by decide) (fun c13 => ?_) (fun c13 => ?_)
    · refine lv_iconst (v := (-1)) hx hb dX3_act_40 (by decide) ?_
      refine we_i hx hb hr hlocks hw ?_ dX3_act_41
      have hS := sAct_no (pl := pl) (c := nI c1) (so := so) (kd := kd) (fun h => absurd c13 (Int32.not_lt.mpr h.2.1.1))
      exact ⟨hS.1.symm, by rw [hS.2]; exact ⟨O, an, wy, pla, hokO, hMz⟩, fun j hj => w_fr hE2 (by omega)⟩
    · refine lv_iload_n hx hb dX3_act_16 rfl (lv_at hl 2 rfl) ?_
      refine lv_bipush (v := 6) hx hb dX3_act_17 (by decide) ?_
      refine lv_icmp_gt (tgt := 40) hx hb dX3_act_19 (by decide) (fun c19 => ?_) (fun c19 => ?_)
      · refine lv_iconst (v := (-1)) hx hb dX3_act_40 (by decide) ?_
        refine we_i hx hb hr hlocks hw ?_ dX3_act_41
        have hS := sAct_no (pl := pl) (c := nI c1) (so := so) (kd := kd) (fun h => absurd c19 (Int32.not_lt.mpr h.2.1.2))
        exact ⟨hS.1.symm, by rw [hS.2]; exact ⟨O, an, wy, pla, hokO, hMz⟩, fun j hj => w_fr hE2 (by omega)⟩
      · refine lv_iload_n hx hb dX3_act_22 rfl (lv_at hl 3 rfl) ?_
        refine wc_i hw (va_runS (As := [.int kd]) (rest := []) ⟨hx, hb, hml, hown, hts⟩ (kX3_isKind l dC dI q ad en3 n _ kd) (va_cwS 1 hts gX3_act_X3_isKind rfl rfl rfl (by decide +kernel) ⟨Nat.le_of_ble_eq_true rfl, Nat.le_of_ble_eq_true rfl⟩) (wk_preS hw) rfl rfl hl.1 rfl (lv_room (Nat.le_of_ble_eq_true rfl)) dX3_act_23 ⟨Nat.le_refl _, Nat.le_refl _⟩) (fun r26 en28 H locs hp27 hw => ?_)
        obtain ⟨hr29, hn30⟩ := hp27
        rw [hn30] at hw
        clear hn30
        refine lv_if_eq (tgt := 40) hx hb dX3_act_26 (by decide) (fun c26 => ?_) (fun c26 => ?_)
        · have hkd := z01_f hr29 c26
          refine lv_iconst (v := (-1)) hx hb dX3_act_40 (by decide) ?_
          refine we_i hx hb hr hlocks hw ?_ dX3_act_41
          have hS := sAct_no (pl := pl) (c := nI c1) (so := so) (kd := kd) (fun h => hkd h.2.2)
          exact ⟨hS.1.symm, by rw [hS.2]; exact ⟨O, an, wy, pla, hokO, hMz⟩, fun j hj => w_fr hE2 (by omega)⟩
        · have hkd := z01_t hr29 c26
          refine lv_aload_n hx hb dX3_act_29 rfl (lv_at hl 0 rfl) ?_
          refine wr_get (ci := 4) (C := RX3) (T := TX3) (N := 21) hx hb hts iRX3 hown hw 42 (by omega) ot20 rfl 14 (by decide) (hts (.fieldLink RX3 45 "LibraryDeskModel" "acts" "[I") (by decide +kernel)) (fun _ h9 => h9) rfl dX3_act_30 ?_
          refine lv_iload_n hx hb dX3_act_33 rfl (lv_at hl 1 rfl) ?_
          refine wr_iald (v := nI (pl c1).2.1) hx hb hw 54 (by omega) 0 c4t20 rfl (vp_in_nI (by omega) (by decide)) (by rw [(nI_clamp (by omega))]; exact (hPlt20 c1 hc).2.1) dX3_act_34 ?_
          refine lv_bipush (v := 6) hx hb dX3_act_35 (by decide) ?_
          refine lv_icmp_ne (tgt := 42) hx hb dX3_act_37 (by decide) (fun c37 => ?_) (fun c37 => ?_)
          · have h6 : (pl c1).2.1 < 6 := by
              have : ¬ (pl c1).2.1 = 6 := fun h => c37 (by rw [h]; rfl)
              omega
            refine lv_bipush (v := 6) hx hb dX3_act_42 (by decide) ?_
            refine lv_iload_n hx hb dX3_act_44 rfl (lv_at hl 1 rfl) ?_
            refine lv_imul hx hb dX3_act_45 ?_
            refine lv_topi (fun x31 ex31 => ?_)
            have ex31n : x31 = nI (6 * c1) := ex31.trans (pk_mul 6 c1)
            clear ex31
            subst ex31n
            refine lv_aload_n hx hb dX3_act_46 rfl (lv_at hl 0 rfl) ?_
            refine wr_get (ci := 4) (C := RX3) (T := TX3) (N := 21) hx hb hts iRX3 hown hw 42 (by omega) ot20 rfl 14 (by decide) (hts (.fieldLink RX3 45 "LibraryDeskModel" "acts" "[I") (by decide +kernel)) (fun _ h9 => h9) rfl dX3_act_47 ?_
            refine lv_iload_n hx hb dX3_act_50 rfl (lv_at hl 1 rfl) ?_
            refine wr_iald (v := nI (pl c1).2.1) hx hb hw 54 (by omega) 0 c4t20 rfl (vp_in_nI (by omega) (by decide)) (by rw [(nI_clamp (by omega))]; exact (hPlt20 c1 hc).2.1) dX3_act_51 ?_
            refine lv_iadd hx hb dX3_act_52 ?_
            refine lv_topi (fun x32 ex32 => ?_)
            have ex32n : x32 = nI (6 * c1 + (pl c1).2.1) := ex32.trans (nI_add _ _)
            clear ex32
            subst ex32n
            refine lv_istore (lv' := [(4, .int (nI (6 * c1 + (pl c1).2.1))), (0, .ref (ad 42)), (1, .int (nI c1)), (2, .int so), (3, .int kd)]) hx hb dX3_act_53 hl (by decide) rfl (fun ls hl => ?_)
            refine lv_aload_n hx hb dX3_act_55 rfl (lv_at hl 1 rfl) ?_
            refine wr_get (ci := 4) (C := RX3) (T := TX3) (N := 21) hx hb hts iRX3 hown hw 42 (by omega) ot20 rfl 12 (by decide) (hts (.fieldLink RX3 39 "LibraryDeskModel" "sorts" "[I") (by decide +kernel)) (fun _ h9 => h9) rfl dX3_act_56 ?_
            refine lv_iload hx hb dX3_act_59 (lv_at hl 0 rfl) ?_
            refine lv_iload_n hx hb dX3_act_61 rfl (lv_at hl 3 rfl) ?_
            refine wr_iast (j := (6 * c1 + (pl c1).2.1)) hx hb hw 52 (by omega) 0 c2t20 rfl (vp_in_nI (by omega) (by decide)) (nI_clamp (by omega)) dX3_act_62 (fun en34 H locs hE33 hw => ?_)
            have he35 : en34 42 = .inr (4, [.int 0, .ref (ad 43), .ref (ad 44), .ref (ad 45), .ref (ad 46), .int (nI (aCn A)), .ref (ad 47), .ref (ad 48), .ref (ad 49), .ref (ad 50), .int (nI (aCn O)), .ref (ad 51), .ref (ad 52), .ref (ad 53), .ref (ad 54), .ref (ad 55), .ref (ad 56), .ref (ad 57), .long an, .int wy, .int pla]) := w_ne hE33 (by omega) ot20
            have he36 : en34 43 = .inl (q.2.2.1, 328, .inl hFt20) := w_ne hE33 (by omega) a1t20
            have he37 : en34 44 = .inl (q.1, 8, .inl mFt20) := w_ne hE33 (by omega) a2t20
            have he38 : en34 45 = .inl (q.2.1, 8, .inr (.inl tFt20)) := w_ne hE33 (by omega) a3t20
            have he39 : en34 46 = .inl (q.2.1, 20, .inr (.inl rFt20)) := w_ne hE33 (by omega) a4t20
            have he40 : en34 47 = .inl (q.2.2.1, 328, .inl oht20) := w_ne hE33 (by omega) b1t20
            have he41 : en34 48 = .inl (q.1, 8, .inl omt20) := w_ne hE33 (by omega) b2t20
            have he42 : en34 49 = .inl (q.2.1, 8, .inr (.inl ott20)) := w_ne hE33 (by omega) b3t20
            have he43 : en34 50 = .inl (q.2.1, 20, .inr (.inl orrt20)) := w_ne hE33 (by omega) b4t20
            have he44 : en34 51 = .inl (q.1, 10, .inl wFt20) := w_ne hE33 (by omega) c1t20
            have he45 : en34 52 = .inl (q.1, 60, .inl (upd sFt20 ((6 * c1 + (pl c1).2.1)) so)) := w_self hE33
            have he46 : en34 53 = .inl (q.1, 60, .inl kFt20) := w_ne hE33 (by omega) c3t20
            have he47 : en34 54 = .inl (q.1, 10, .inl aFt20) := w_ne hE33 (by omega) c4t20
            have he48 : en34 55 = .inl (q.1, 10, .inl fFt20) := w_ne hE33 (by omega) c5t20
            have he49 : en34 56 = .inl (q.1, 10, .inl xFt20) := w_ne hE33 (by omega) c6t20
            have he50 : en34 57 = .inl (q.1, 7, .inl gFt20) := w_ne hE33 (by omega) e1t20
            refine lv_aload_n hx hb dX3_act_63 rfl (lv_at hl 1 rfl) ?_
            refine wr_get (ci := 4) (C := RX3) (T := TX3) (N := 21) hx hb hts iRX3 hown hw 42 (by omega) he35 rfl 13 (by decide) (hts (.fieldLink RX3 42 "LibraryDeskModel" "kinds" "[I") (by decide +kernel)) (fun _ h9 => h9) rfl dX3_act_64 ?_
            refine lv_iload hx hb dX3_act_67 (lv_at hl 0 rfl) ?_
            refine lv_iload_n hx hb dX3_act_69 rfl (lv_at hl 4 rfl) ?_
            refine wr_iast (j := (6 * c1 + (pl c1).2.1)) hx hb hw 53 (by omega) 0 he46 rfl (vp_in_nI (by omega) (by decide)) (nI_clamp (by omega)) dX3_act_70 (fun en52 H locs hE51 hw => ?_)
            have he53 : en52 42 = .inr (4, [.int 0, .ref (ad 43), .ref (ad 44), .ref (ad 45), .ref (ad 46), .int (nI (aCn A)), .ref (ad 47), .ref (ad 48), .ref (ad 49), .ref (ad 50), .int (nI (aCn O)), .ref (ad 51), .ref (ad 52), .ref (ad 53), .ref (ad 54), .ref (ad 55), .ref (ad 56), .ref (ad 57), .long an, .int wy, .int pla]) := w_ne hE51 (by omega) he35
            have he54 : en52 43 = .inl (q.2.2.1, 328, .inl hFt20) := w_ne hE51 (by omega) he36
            have he55 : en52 44 = .inl (q.1, 8, .inl mFt20) := w_ne hE51 (by omega) he37
            have he56 : en52 45 = .inl (q.2.1, 8, .inr (.inl tFt20)) := w_ne hE51 (by omega) he38
            have he57 : en52 46 = .inl (q.2.1, 20, .inr (.inl rFt20)) := w_ne hE51 (by omega) he39
            have he58 : en52 47 = .inl (q.2.2.1, 328, .inl oht20) := w_ne hE51 (by omega) he40
            have he59 : en52 48 = .inl (q.1, 8, .inl omt20) := w_ne hE51 (by omega) he41
            have he60 : en52 49 = .inl (q.2.1, 8, .inr (.inl ott20)) := w_ne hE51 (by omega) he42
            have he61 : en52 50 = .inl (q.2.1, 20, .inr (.inl orrt20)) := w_ne hE51 (by omega) he43
            have he62 : en52 51 = .inl (q.1, 10, .inl wFt20) := w_ne hE51 (by omega) he44
            have he63 : en52 52 = .inl (q.1, 60, .inl (upd sFt20 ((6 * c1 + (pl c1).2.1)) so)) := w_ne hE51 (by omega) he45
            have he64 : en52 53 = .inl (q.1, 60, .inl (upd kFt20 ((6 * c1 + (pl c1).2.1)) kd)) := w_self hE51
            have he65 : en52 54 = .inl (q.1, 10, .inl aFt20) := w_ne hE51 (by omega) he47
            have he66 : en52 55 = .inl (q.1, 10, .inl fFt20) := w_ne hE51 (by omega) he48
            have he67 : en52 56 = .inl (q.1, 10, .inl xFt20) := w_ne hE51 (by omega) he49
            have he68 : en52 57 = .inl (q.1, 7, .inl gFt20) := w_ne hE51 (by omega) he50
            refine lv_aload_n hx hb dX3_act_71 rfl (lv_at hl 1 rfl) ?_
            refine wr_get (ci := 4) (C := RX3) (T := TX3) (N := 21) hx hb hts iRX3 hown hw 42 (by omega) he53 rfl 14 (by decide) (hts (.fieldLink RX3 45 "LibraryDeskModel" "acts" "[I") (by decide +kernel)) (fun _ h9 => h9) rfl dX3_act_72 ?_
            refine lv_iload_n hx hb dX3_act_75 rfl (lv_at hl 2 rfl) ?_
            refine lv_dup2_11 hx hb dX3_act_76 rfl rfl ?_
            refine wr_iald (v := nI (pl c1).2.1) hx hb hw 54 (by omega) 0 he65 rfl (vp_in_nI (by omega) (by decide)) (by rw [(nI_clamp (by omega))]; exact (hPlt20 c1 hc).2.1) dX3_act_77 ?_
            refine lv_iconst (v := 1) hx hb dX3_act_78 (by decide) ?_
            refine lv_iadd hx hb dX3_act_79 ?_
            refine lv_topi (fun x69 ex69 => ?_)
            have ex69n : x69 = nI ((pl c1).2.1 + 1) := ex69.trans (nI_1 _)
            clear ex69
            subst ex69n
            refine wr_iast (j := c1) hx hb hw 54 (by omega) 0 he65 rfl (vp_in_nI (by omega) (by decide)) (nI_clamp (by omega)) dX3_act_80 (fun en71 H locs hE70 hw => ?_)
            have he72 : en71 42 = .inr (4, [.int 0, .ref (ad 43), .ref (ad 44), .ref (ad 45), .ref (ad 46), .int (nI (aCn A)), .ref (ad 47), .ref (ad 48), .ref (ad 49), .ref (ad 50), .int (nI (aCn O)), .ref (ad 51), .ref (ad 52), .ref (ad 53), .ref (ad 54), .ref (ad 55), .ref (ad 56), .ref (ad 57), .long an, .int wy, .int pla]) := w_ne hE70 (by omega) he53
            have he73 : en71 43 = .inl (q.2.2.1, 328, .inl hFt20) := w_ne hE70 (by omega) he54
            have he74 : en71 44 = .inl (q.1, 8, .inl mFt20) := w_ne hE70 (by omega) he55
            have he75 : en71 45 = .inl (q.2.1, 8, .inr (.inl tFt20)) := w_ne hE70 (by omega) he56
            have he76 : en71 46 = .inl (q.2.1, 20, .inr (.inl rFt20)) := w_ne hE70 (by omega) he57
            have he77 : en71 47 = .inl (q.2.2.1, 328, .inl oht20) := w_ne hE70 (by omega) he58
            have he78 : en71 48 = .inl (q.1, 8, .inl omt20) := w_ne hE70 (by omega) he59
            have he79 : en71 49 = .inl (q.2.1, 8, .inr (.inl ott20)) := w_ne hE70 (by omega) he60
            have he80 : en71 50 = .inl (q.2.1, 20, .inr (.inl orrt20)) := w_ne hE70 (by omega) he61
            have he81 : en71 51 = .inl (q.1, 10, .inl wFt20) := w_ne hE70 (by omega) he62
            have he82 : en71 52 = .inl (q.1, 60, .inl (upd sFt20 ((6 * c1 + (pl c1).2.1)) so)) := w_ne hE70 (by omega) he63
            have he83 : en71 53 = .inl (q.1, 60, .inl (upd kFt20 ((6 * c1 + (pl c1).2.1)) kd)) := w_ne hE70 (by omega) he64
            have he84 : en71 54 = .inl (q.1, 10, .inl (upd aFt20 c1 (nI ((pl c1).2.1 + 1)))) := w_self hE70
            have he85 : en71 55 = .inl (q.1, 10, .inl fFt20) := w_ne hE70 (by omega) he66
            have he86 : en71 56 = .inl (q.1, 10, .inl xFt20) := w_ne hE70 (by omega) he67
            have he87 : en71 57 = .inl (q.1, 7, .inl gFt20) := w_ne hE70 (by omega) he68
            refine lv_aload_n hx hb dX3_act_81 rfl (lv_at hl 1 rfl) ?_
            refine wr_get (ci := 4) (C := RX3) (T := TX3) (N := 21) hx hb hts iRX3 hown hw 42 (by omega) he72 rfl 14 (by decide) (hts (.fieldLink RX3 45 "LibraryDeskModel" "acts" "[I") (by decide +kernel)) (fun _ h9 => h9) rfl dX3_act_82 ?_
            refine lv_iload_n hx hb dX3_act_85 rfl (lv_at hl 2 rfl) ?_
            refine wr_iald (v := nI ((pl c1).2.1 + 1)) hx hb hw 54 (by omega) 0 he84 rfl (vp_in_nI (by omega) (by decide)) (by rw [(nI_clamp (by omega))]; exact pk_us) dX3_act_86 ?_
            refine we_i hx hb hr hlocks hw ?_ dX3_act_87
            have hS := sAct_ok (pl := pl) (so := so) (kd := kd) hc ⟨⟨Int32.not_lt.mp c13, Int32.not_lt.mp c19⟩, hkd⟩
            refine ⟨by rw [hS.1, if_pos h6], ?_, fun j hj => (w_fr hE70 (by omega)).trans ((w_fr hE51 (by omega)).trans ((w_fr hE33 (by omega)).trans (w_fr hE2 (by omega))))⟩
            rw [hS.2]
            exact ⟨O, _, _, _, hokO, ⟨he72, ⟨_, _, _, _, he73, he74, he75, he76, hRt20⟩, ⟨_, _, _, _, he77, he78, he79, he80, hOt20⟩, ⟨_, _, _, _, _, _, he81, he82, he83, he84, he85, he86, MPl_act hPlt20 hpok hc h6 so kd⟩, ⟨_, he87, hTt20⟩⟩⟩
          · have h6 : ¬ (pl c1).2.1 < 6 := fun h => absurd ((nI_eq (b := 6) (by omega) (by omega)).mp c37) (by omega)
            refine lv_iconst (v := (-1)) hx hb dX3_act_40 (by decide) ?_
            refine we_i hx hb hr hlocks hw ?_ dX3_act_41
            have hS := sAct_ok (pl := pl) (so := so) (kd := kd) hc ⟨⟨Int32.not_lt.mp c13, Int32.not_lt.mp c19⟩, hkd⟩
            have hpn : pAdd so kd (pl c1) = pl c1 := by
              unfold pAdd
              rw [if_neg h6]
            exact ⟨by rw [hS.1, if_neg h6], by rw [hS.2, hpn, va_up_id]; exact ⟨O, an, wy, pla, hokO, hMz⟩, fun j hj => w_fr hE2 (by omega)⟩

set_option maxHeartbeats 4000000 in
set_option maxRecDepth 100000 in
theorem kX3_fails (l : Launch) (dC : Nat → ClassId) (dI : Nat → Nat → Nat) (q : ClassId × ClassId × ClassId × ClassId) (ad : Nat → Nat) (en : Nat → va_E) (n sz : Nat) (hn58 : 58 ≤ n) (th : Int32) (A : Ast) (pl : Nat → Pst) (cs : Nat → Int32) (hok : Aok A) (hpok : ∀ i, i < 10 → Pok (pl i)) (hM0 : ModAt q ad en th A pl cs) (cv i x : Int32) :
    Met l yX3_fails wsX3_fails ({ frames := 1, cells := 0, slots := 0, locals := 20 }) (wPc (dC, dI) vwCl (wT q) ad en n sz [.ref (ad 42), .int cv, .int i, .int x]) (va_Qi (fun (r : Int32) (en' : Nat → va_E) => r = sFailsR cv i x ∧ ModAt q ad en' 0 A (sFails cv i x pl) cs ∧ ∀ j, (j < 42 ∨ 58 ≤ j) → en' j = en j) (wB (dC, dI) vwCl (wT q) ad n (wA ad n sz)) (wA ad n sz)) 0 0 (wA ad n sz) := by
  refine Met.ofW (cc := cX3_fails) (maxL := 4) (ret := (some .int)) (by decide) rfl ?_
  intro p e s m args below meth c s₁ B hml hv
  obtain ⟨rfl, hsz, hP, hK, hD0, hE0⟩ := hv
  have hx := B.exec
  have hb := B.bytes
  have hr := B.returns
  have hts := atoms_spec (ws := wsX3_fails) B.pre
  have hown : s.vm.findClass RX3 = some m.cls := findClass_of_methodNamed B.named
  have hlocks := B.notSynchronized
  have iRX3 : ∀ w ∈ u_ws RX3 TX3 21, w ∈ wsX3_fails := by decide +kernel
  subst hsz
  have hw := wk_of hP hK hD0 hE0
  generalize wA ad n s.heap.size = AA at hw ⊢
  have hl := lv_entry ([.ref (ad 42), .int cv, .int i, .int x]) (n := 4) (Nat.le_of_ble_eq_true rfl)
  rw [lg_entry_eq]
  generalize (lg_sl ([.ref (ad 42), .int cv, .int i, .int x]) ++ List.replicate (4 - (lg_sl ([.ref (ad 42), .int cv, .int i, .int x])).length) Slot.unset).toArray = ls at hl ⊢
  have hl : lv_has ls 4 [(0, .ref (ad 42)), (1, .int cv), (2, .int i), (3, .int x)] := hl
  obtain ⟨O, an, wy, pla, hokO, hM⟩ := hM0
  have hcn := hok.2
  obtain ⟨ot1, ⟨hFt1, mFt1, tFt1, rFt1, a1t1, a2t1, a3t1, a4t1, hRt1⟩, ⟨oht1, omt1, ott1, orrt1, b1t1, b2t1, b3t1, b4t1, hOt1⟩, ⟨wFt1, sFt1, kFt1, aFt1, fFt1, xFt1, c1t1, c2t1, c3t1, c4t1, c5t1, c6t1, hPlt1⟩, ⟨gFt1, e1t1, hTt1⟩⟩ := id hM
  refine lv_aload_n hx hb dX3_fails_0 rfl (lv_at hl 0 rfl) ?_
  refine lv_iconst (v := 0) hx hb dX3_fails_1 (by decide) ?_
  refine wr_put (ci := 4) (v := .int 0) (ty := .int) (C := RX3) (T := TX3) (N := 21) hx hb hts iRX3 tyX3 tyX3_ok nmX3 hown hw 42 (by omega) ot1 rfl 0 (by decide) (hts (.fieldLink RX3 57 "LibraryDeskModel" "thrown" "I") (by decide +kernel)) (fun _ h9 => h9) rfl (by decide +kernel) rfl rfl (Nat.le_of_ble_eq_true rfl) dX3_fails_2 (fun en3 H locs hE2 hw => ?_)
  have he4 : en3 42 = .inr (4, [.int 0, .ref (ad 43), .ref (ad 44), .ref (ad 45), .ref (ad 46), .int (nI (aCn A)), .ref (ad 47), .ref (ad 48), .ref (ad 49), .ref (ad 50), .int (nI (aCn O)), .ref (ad 51), .ref (ad 52), .ref (ad 53), .ref (ad 54), .ref (ad 55), .ref (ad 56), .ref (ad 57), .long an, .int wy, .int pla]) := w_self hE2
  have he5 : en3 43 = .inl (q.2.2.1, 328, .inl hFt1) := w_ne hE2 (by omega) a1t1
  have he6 : en3 44 = .inl (q.1, 8, .inl mFt1) := w_ne hE2 (by omega) a2t1
  have he7 : en3 45 = .inl (q.2.1, 8, .inr (.inl tFt1)) := w_ne hE2 (by omega) a3t1
  have he8 : en3 46 = .inl (q.2.1, 20, .inr (.inl rFt1)) := w_ne hE2 (by omega) a4t1
  have he9 : en3 47 = .inl (q.2.2.1, 328, .inl oht1) := w_ne hE2 (by omega) b1t1
  have he10 : en3 48 = .inl (q.1, 8, .inl omt1) := w_ne hE2 (by omega) b2t1
  have he11 : en3 49 = .inl (q.2.1, 8, .inr (.inl ott1)) := w_ne hE2 (by omega) b3t1
  have he12 : en3 50 = .inl (q.2.1, 20, .inr (.inl orrt1)) := w_ne hE2 (by omega) b4t1
  have he13 : en3 51 = .inl (q.1, 10, .inl wFt1) := w_ne hE2 (by omega) c1t1
  have he14 : en3 52 = .inl (q.1, 60, .inl sFt1) := w_ne hE2 (by omega) c2t1
  have he15 : en3 53 = .inl (q.1, 60, .inl kFt1) := w_ne hE2 (by omega) c3t1
  have he16 : en3 54 = .inl (q.1, 10, .inl aFt1) := w_ne hE2 (by omega) c4t1
  have he17 : en3 55 = .inl (q.1, 10, .inl fFt1) := w_ne hE2 (by omega) c5t1
  have he18 : en3 56 = .inl (q.1, 10, .inl xFt1) := w_ne hE2 (by omega) c6t1
  have he19 : en3 57 = .inl (q.1, 7, .inl gFt1) := w_ne hE2 (by omega) e1t1
  have hMz : ModC q ad en3 0 A O pl cs an wy pla := ⟨he4, ⟨_, _, _, _, he5, he6, he7, he8, hRt1⟩, ⟨_, _, _, _, he9, he10, he11, he12, hOt1⟩, ⟨_, _, _, _, _, _, he13, he14, he15, he16, he17, he18, hPlt1⟩, ⟨_, he19, hTt1⟩⟩
  obtain ⟨ot20, ⟨hFt20, mFt20, tFt20, rFt20, a1t20, a2t20, a3t20, a4t20, hRt20⟩, ⟨oht20, omt20, ott20, orrt20, b1t20, b2t20, b3t20, b4t20, hOt20⟩, ⟨wFt20, sFt20, kFt20, aFt20, fFt20, xFt20, c1t20, c2t20, c3t20, c4t20, c5t20, c6t20, hPlt20⟩, ⟨gFt20, e1t20, hTt20⟩⟩ := id hMz
  refine lv_iload_n hx hb dX3_fails_5 rfl (lv_at hl 1 rfl) ?_
  refine wc_i hw (va_runS (As := [.int cv]) (rest := []) ⟨hx, hb, hml, hown, hts⟩ (kX3_isCall l dC dI q ad en3 n _ cv) (va_cwS 1 hts gX3_fails_X3_isCall rfl rfl rfl (by decide +kernel) ⟨Nat.le_of_ble_eq_true rfl, Nat.le_of_ble_eq_true rfl⟩) (wk_preS hw) rfl rfl hl.1 rfl (lv_room (Nat.le_of_ble_eq_true rfl)) dX3_fails_6 ⟨Nat.le_refl _, Nat.le_refl _⟩) (fun r21 en23 H locs hp22 hw => ?_)
  obtain ⟨hr24, hn25⟩ := hp22
  rw [hn25] at hw
  clear hn25
  refine lv_if_eq (tgt := 31) hx hb dX3_fails_9 (by decide) (fun c9 => ?_) (fun c9 => ?_)
  · have hcv := z01_f hr24 c9
    refine lv_iconst (v := 0) hx hb dX3_fails_31 (by decide) ?_
    refine we_i hx hb hr hlocks hw ?_ dX3_fails_32
    have hS := sFails_no (pl := pl) (c := cv) (i := i) (x := x) (fun h => hcv h.1)
    exact ⟨hS.1.symm, by rw [hS.2]; exact ⟨O, an, wy, pla, hokO, hMz⟩, fun j hj => w_fr hE2 (by omega)⟩
  · have hcv := z01_t hr24 c9
    obtain ⟨c1, hc, ecv⟩ := okC_of hcv
    subst ecv
    refine lv_iload_n hx hb dX3_fails_12 rfl (lv_at hl 2 rfl) ?_
    refine lv_if_lt (tgt := 31) hx hb dX3_fails_13 (by decide) (fun c13 => ?_) (fun c13 => ?_)
    · refine lv_iconst (v := 0) hx hb dX3_fails_31 (by decide) ?_
      refine we_i hx hb hr hlocks hw ?_ dX3_fails_32
      have hS := sFails_no (pl := pl) (c := nI c1) (i := i) (x := x) (fun h => absurd c13 (Int32.not_lt.mpr h.2.1.1))
      exact ⟨hS.1.symm, by rw [hS.2]; exact ⟨O, an, wy, pla, hokO, hMz⟩, fun j hj => w_fr hE2 (by omega)⟩
    · refine lv_iload_n hx hb dX3_fails_16 rfl (lv_at hl 2 rfl) ?_
      refine lv_iconst (v := 5) hx hb dX3_fails_17 (by decide) ?_
      refine lv_icmp_gt (tgt := 31) hx hb dX3_fails_18 (by decide) (fun c18 => ?_) (fun c18 => ?_)
      · refine lv_iconst (v := 0) hx hb dX3_fails_31 (by decide) ?_
        refine we_i hx hb hr hlocks hw ?_ dX3_fails_32
        have hS := sFails_no (pl := pl) (c := nI c1) (i := i) (x := x) (fun h => absurd h.2.1.2 (Int32.not_lt.mpr (le5_6 c18)))
        exact ⟨hS.1.symm, by rw [hS.2]; exact ⟨O, an, wy, pla, hokO, hMz⟩, fun j hj => w_fr hE2 (by omega)⟩
      · refine lv_iload_n hx hb dX3_fails_21 rfl (lv_at hl 3 rfl) ?_
        refine lv_iconst (v := 1) hx hb dX3_fails_22 (by decide) ?_
        refine lv_icmp_lt (tgt := 31) hx hb dX3_fails_23 (by decide) (fun c23 => ?_) (fun c23 => ?_)
        · refine lv_iconst (v := 0) hx hb dX3_fails_31 (by decide) ?_
          refine we_i hx hb hr hlocks hw ?_ dX3_fails_32
          have hS := sFails_no (pl := pl) (c := nI c1) (i := i) (x := x) (fun h => absurd c23 (Int32.not_lt.mpr h.2.2.1))
          exact ⟨hS.1.symm, by rw [hS.2]; exact ⟨O, an, wy, pla, hokO, hMz⟩, fun j hj => w_fr hE2 (by omega)⟩
        · refine lv_iload_n hx hb dX3_fails_26 rfl (lv_at hl 3 rfl) ?_
          refine lv_iconst (v := 5) hx hb dX3_fails_27 (by decide) ?_
          refine lv_icmp_le (tgt := 33) hx hb dX3_fails_28 (by decide) (fun c28 => ?_) (fun c28 => ?_)
          · refine lv_aload_n hx hb dX3_fails_33 rfl (lv_at hl 0 rfl) ?_
            refine wr_get (ci := 4) (C := RX3) (T := TX3) (N := 21) hx hb hts iRX3 hown hw 42 (by omega) ot20 rfl 15 (by decide) (hts (.fieldLink RX3 48 "LibraryDeskModel" "failsAt" "[I") (by decide +kernel)) (fun _ h9 => h9) rfl dX3_fails_34 ?_
            refine lv_iload_n hx hb dX3_fails_37 rfl (lv_at hl 1 rfl) ?_
            refine lv_iload_n hx hb dX3_fails_38 rfl (lv_at hl 2 rfl) ?_
            refine wr_iast (j := c1) hx hb hw 55 (by omega) 0 c5t20 rfl (vp_in_nI (by omega) (by decide)) (nI_clamp (by omega)) dX3_fails_39 (fun en27 H locs hE26 hw => ?_)
            have he28 : en27 42 = .inr (4, [.int 0, .ref (ad 43), .ref (ad 44), .ref (ad 45), .ref (ad 46), .int (nI (aCn A)), .ref (ad 47), .ref (ad 48), .ref (ad 49), .ref (ad 50), .int (nI (aCn O)), .ref (ad 51), .ref (ad 52), .ref (ad 53), .ref (ad 54), .ref (ad 55), .ref (ad 56), .ref (ad 57), .long an, .int wy, .int pla]) := w_ne hE26 (by omega) ot20
            have he29 : en27 43 = .inl (q.2.2.1, 328, .inl hFt20) := w_ne hE26 (by omega) a1t20
            have he30 : en27 44 = .inl (q.1, 8, .inl mFt20) := w_ne hE26 (by omega) a2t20
            have he31 : en27 45 = .inl (q.2.1, 8, .inr (.inl tFt20)) := w_ne hE26 (by omega) a3t20
            have he32 : en27 46 = .inl (q.2.1, 20, .inr (.inl rFt20)) := w_ne hE26 (by omega) a4t20
            have he33 : en27 47 = .inl (q.2.2.1, 328, .inl oht20) := w_ne hE26 (by omega) b1t20
            have he34 : en27 48 = .inl (q.1, 8, .inl omt20) := w_ne hE26 (by omega) b2t20
            have he35 : en27 49 = .inl (q.2.1, 8, .inr (.inl ott20)) := w_ne hE26 (by omega) b3t20
            have he36 : en27 50 = .inl (q.2.1, 20, .inr (.inl orrt20)) := w_ne hE26 (by omega) b4t20
            have he37 : en27 51 = .inl (q.1, 10, .inl wFt20) := w_ne hE26 (by omega) c1t20
            have he38 : en27 52 = .inl (q.1, 60, .inl sFt20) := w_ne hE26 (by omega) c2t20
            have he39 : en27 53 = .inl (q.1, 60, .inl kFt20) := w_ne hE26 (by omega) c3t20
            have he40 : en27 54 = .inl (q.1, 10, .inl aFt20) := w_ne hE26 (by omega) c4t20
            have he41 : en27 55 = .inl (q.1, 10, .inl (upd fFt20 c1 i)) := w_self hE26
            have he42 : en27 56 = .inl (q.1, 10, .inl xFt20) := w_ne hE26 (by omega) c6t20
            have he43 : en27 57 = .inl (q.1, 7, .inl gFt20) := w_ne hE26 (by omega) e1t20
            refine lv_aload_n hx hb dX3_fails_40 rfl (lv_at hl 0 rfl) ?_
            refine wr_get (ci := 4) (C := RX3) (T := TX3) (N := 21) hx hb hts iRX3 hown hw 42 (by omega) he28 rfl 16 (by decide) (hts (.fieldLink RX3 51 "LibraryDeskModel" "failsWith" "[I") (by decide +kernel)) (fun _ h9 => h9) rfl dX3_fails_41 ?_
            refine lv_iload_n hx hb dX3_fails_44 rfl (lv_at hl 1 rfl) ?_
            refine lv_iload_n hx hb dX3_fails_45 rfl (lv_at hl 3 rfl) ?_
            refine wr_iast (j := c1) hx hb hw 56 (by omega) 0 he42 rfl (vp_in_nI (by omega) (by decide)) (nI_clamp (by omega)) dX3_fails_46 (fun en45 H locs hE44 hw => ?_)
            have he46 : en45 42 = .inr (4, [.int 0, .ref (ad 43), .ref (ad 44), .ref (ad 45), .ref (ad 46), .int (nI (aCn A)), .ref (ad 47), .ref (ad 48), .ref (ad 49), .ref (ad 50), .int (nI (aCn O)), .ref (ad 51), .ref (ad 52), .ref (ad 53), .ref (ad 54), .ref (ad 55), .ref (ad 56), .ref (ad 57), .long an, .int wy, .int pla]) := w_ne hE44 (by omega) he28
            have he47 : en45 43 = .inl (q.2.2.1, 328, .inl hFt20) := w_ne hE44 (by omega) he29
            have he48 : en45 44 = .inl (q.1, 8, .inl mFt20) := w_ne hE44 (by omega) he30
            have he49 : en45 45 = .inl (q.2.1, 8, .inr (.inl tFt20)) := w_ne hE44 (by omega) he31
            have he50 : en45 46 = .inl (q.2.1, 20, .inr (.inl rFt20)) := w_ne hE44 (by omega) he32
            have he51 : en45 47 = .inl (q.2.2.1, 328, .inl oht20) := w_ne hE44 (by omega) he33
            have he52 : en45 48 = .inl (q.1, 8, .inl omt20) := w_ne hE44 (by omega) he34
            have he53 : en45 49 = .inl (q.2.1, 8, .inr (.inl ott20)) := w_ne hE44 (by omega) he35
            have he54 : en45 50 = .inl (q.2.1, 20, .inr (.inl orrt20)) := w_ne hE44 (by omega) he36
            have he55 : en45 51 = .inl (q.1, 10, .inl wFt20) := w_ne hE44 (by omega) he37
            have he56 : en45 52 = .inl (q.1, 60, .inl sFt20) := w_ne hE44 (by omega) he38
            have he57 : en45 53 = .inl (q.1, 60, .inl kFt20) := w_ne hE44 (by omega) he39
            have he58 : en45 54 = .inl (q.1, 10, .inl aFt20) := w_ne hE44 (by omega) he40
            have he59 : en45 55 = .inl (q.1, 10, .inl (upd fFt20 c1 i)) := w_ne hE44 (by omega) he41
            have he60 : en45 56 = .inl (q.1, 10, .inl (upd xFt20 c1 x)) := w_self hE44
            have he61 : en45 57 = .inl (q.1, 7, .inl gFt20) := w_ne hE44 (by omega) he43
            refine lv_iconst (v := 1) hx hb dX3_fails_47 (by decide) ?_
            refine we_i hx hb hr hlocks hw ?_ dX3_fails_48
            have hS := sFails_ok (pl := pl) hc ⟨⟨Int32.not_lt.mp c13, Int32.lt_of_le_of_lt (Int32.not_lt.mp c18) (by decide)⟩, Int32.not_lt.mp c23, c28⟩
            refine ⟨hS.1.symm, ?_, fun j hj => (w_fr hE44 (by omega)).trans ((w_fr hE26 (by omega)).trans (w_fr hE2 (by omega)))⟩
            rw [hS.2]
            obtain ⟨k1, k2, k3, k4, k5⟩ := hPlt20 c1 hc
            exact ⟨O, _, _, _, hokO, ⟨he46, ⟨_, _, _, _, he47, he48, he49, he50, hRt20⟩, ⟨_, _, _, _, he51, he52, he53, he54, hOt20⟩, ⟨_, _, _, _, _, _, he55, he56, he57, he58, he59, he60, MPl_up hPlt20 hc (fun j e => ⟨rfl, rfl, pk_un e, pk_un e⟩) ⟨k1, k2, pk_us, pk_us, k5⟩⟩, ⟨_, he61, hTt20⟩⟩⟩
          · refine lv_iconst (v := 0) hx hb dX3_fails_31 (by decide) ?_
            refine we_i hx hb hr hlocks hw ?_ dX3_fails_32
            have hS := sFails_no (pl := pl) (c := nI c1) (i := i) (x := x) (fun h => c28 h.2.2.2)
            exact ⟨hS.1.symm, by rw [hS.2]; exact ⟨O, an, wy, pla, hokO, hMz⟩, fun j hj => w_fr hE2 (by omega)⟩

set_option maxHeartbeats 4000000 in
set_option maxRecDepth 100000 in
theorem kX3_make (l : Launch) (dC : Nat → ClassId) (dI : Nat → Nat → Nat) (q : ClassId × ClassId × ClassId × ClassId) (ad : Nat → Nat) (en : Nat → va_E) (n sz : Nat) (hn58 : 58 ≤ n) (th : Int32) (A : Ast) (pl : Nat → Pst) (cs : Nat → Int32) (hok : Aok A) (hpok : ∀ i, i < 10 → Pok (pl i)) (hM0 : ModAt q ad en th A pl cs) (kd : Int32) :
    Met l yX3_make wsX3_make ({ frames := 1, cells := 0, slots := 0, locals := 21 }) (wPc (dC, dI) vwCl (wT q) ad en n sz [.ref (ad 42), .int kd]) (va_Qi (fun (r : Int32) (en' : Nat → va_E) => r = sMakeR kd A ∧ ModAt q ad en' 0 (sMake kd A) pl cs ∧ ∀ j, (j < 42 ∨ 58 ≤ j) → en' j = en j) (wB (dC, dI) vwCl (wT q) ad n (wA ad n sz)) (wA ad n sz)) 0 0 (wA ad n sz) := by
  refine Met.ofW (cc := cX3_make) (maxL := 2) (ret := (some .int)) (by decide) rfl ?_
  intro p e s m args below meth c s₁ B hml hv
  obtain ⟨rfl, hsz, hP, hK, hD0, hE0⟩ := hv
  have hx := B.exec
  have hb := B.bytes
  have hr := B.returns
  have hts := atoms_spec (ws := wsX3_make) B.pre
  have hown : s.vm.findClass RX3 = some m.cls := findClass_of_methodNamed B.named
  have hlocks := B.notSynchronized
  have iRX3 : ∀ w ∈ u_ws RX3 TX3 21, w ∈ wsX3_make := by decide +kernel
  subst hsz
  have hw := wk_of hP hK hD0 hE0
  generalize wA ad n s.heap.size = AA at hw ⊢
  have hl := lv_entry ([.ref (ad 42), .int kd]) (n := 2) (Nat.le_of_ble_eq_true rfl)
  rw [lg_entry_eq]
  generalize (lg_sl ([.ref (ad 42), .int kd]) ++ List.replicate (2 - (lg_sl ([.ref (ad 42), .int kd])).length) Slot.unset).toArray = ls at hl ⊢
  have hl : lv_has ls 2 [(0, .ref (ad 42)), (1, .int kd)] := hl
  obtain ⟨O, an, wy, pla, hokO, hM⟩ := hM0
  have hcn := hok.2
  obtain ⟨ot1, ⟨hFt1, mFt1, tFt1, rFt1, a1t1, a2t1, a3t1, a4t1, hRt1⟩, ⟨oht1, omt1, ott1, orrt1, b1t1, b2t1, b3t1, b4t1, hOt1⟩, ⟨wFt1, sFt1, kFt1, aFt1, fFt1, xFt1, c1t1, c2t1, c3t1, c4t1, c5t1, c6t1, hPlt1⟩, ⟨gFt1, e1t1, hTt1⟩⟩ := id hM
  refine lv_aload_n hx hb dX3_make_0 rfl (lv_at hl 0 rfl) ?_
  refine lv_iconst (v := 0) hx hb dX3_make_1 (by decide) ?_
  refine wr_put (ci := 4) (v := .int 0) (ty := .int) (C := RX3) (T := TX3) (N := 21) hx hb hts iRX3 tyX3 tyX3_ok nmX3 hown hw 42 (by omega) ot1 rfl 0 (by decide) (hts (.fieldLink RX3 57 "LibraryDeskModel" "thrown" "I") (by decide +kernel)) (fun _ h9 => h9) rfl (by decide +kernel) rfl rfl (Nat.le_of_ble_eq_true rfl) dX3_make_2 (fun en3 H locs hE2 hw => ?_)
  have he4 : en3 42 = .inr (4, [.int 0, .ref (ad 43), .ref (ad 44), .ref (ad 45), .ref (ad 46), .int (nI (aCn A)), .ref (ad 47), .ref (ad 48), .ref (ad 49), .ref (ad 50), .int (nI (aCn O)), .ref (ad 51), .ref (ad 52), .ref (ad 53), .ref (ad 54), .ref (ad 55), .ref (ad 56), .ref (ad 57), .long an, .int wy, .int pla]) := w_self hE2
  have he5 : en3 43 = .inl (q.2.2.1, 328, .inl hFt1) := w_ne hE2 (by omega) a1t1
  have he6 : en3 44 = .inl (q.1, 8, .inl mFt1) := w_ne hE2 (by omega) a2t1
  have he7 : en3 45 = .inl (q.2.1, 8, .inr (.inl tFt1)) := w_ne hE2 (by omega) a3t1
  have he8 : en3 46 = .inl (q.2.1, 20, .inr (.inl rFt1)) := w_ne hE2 (by omega) a4t1
  have he9 : en3 47 = .inl (q.2.2.1, 328, .inl oht1) := w_ne hE2 (by omega) b1t1
  have he10 : en3 48 = .inl (q.1, 8, .inl omt1) := w_ne hE2 (by omega) b2t1
  have he11 : en3 49 = .inl (q.2.1, 8, .inr (.inl ott1)) := w_ne hE2 (by omega) b3t1
  have he12 : en3 50 = .inl (q.2.1, 20, .inr (.inl orrt1)) := w_ne hE2 (by omega) b4t1
  have he13 : en3 51 = .inl (q.1, 10, .inl wFt1) := w_ne hE2 (by omega) c1t1
  have he14 : en3 52 = .inl (q.1, 60, .inl sFt1) := w_ne hE2 (by omega) c2t1
  have he15 : en3 53 = .inl (q.1, 60, .inl kFt1) := w_ne hE2 (by omega) c3t1
  have he16 : en3 54 = .inl (q.1, 10, .inl aFt1) := w_ne hE2 (by omega) c4t1
  have he17 : en3 55 = .inl (q.1, 10, .inl fFt1) := w_ne hE2 (by omega) c5t1
  have he18 : en3 56 = .inl (q.1, 10, .inl xFt1) := w_ne hE2 (by omega) c6t1
  have he19 : en3 57 = .inl (q.1, 7, .inl gFt1) := w_ne hE2 (by omega) e1t1
  have hMz : ModC q ad en3 0 A O pl cs an wy pla := ⟨he4, ⟨_, _, _, _, he5, he6, he7, he8, hRt1⟩, ⟨_, _, _, _, he9, he10, he11, he12, hOt1⟩, ⟨_, _, _, _, _, _, he13, he14, he15, he16, he17, he18, hPlt1⟩, ⟨_, he19, hTt1⟩⟩
  obtain ⟨ot20, ⟨hFt20, mFt20, tFt20, rFt20, a1t20, a2t20, a3t20, a4t20, hRt20⟩, ⟨oht20, omt20, ott20, orrt20, b1t20, b2t20, b3t20, b4t20, hOt20⟩, ⟨wFt20, sFt20, kFt20, aFt20, fFt20, xFt20, c1t20, c2t20, c3t20, c4t20, c5t20, c6t20, hPlt20⟩, ⟨gFt20, e1t20, hTt20⟩⟩ := id hMz
  refine lv_iload_n hx hb dX3_make_5 rfl (lv_at hl 1 rfl) ?_
  refine wc_i hw (va_runS (As := [.int kd]) (rest := []) ⟨hx, hb, hml, hown, hts⟩ (kX3_isKind l dC dI q ad en3 n _ kd) (va_cwS 1 hts gX3_make_X3_isKind rfl rfl rfl (by decide +kernel) ⟨Nat.le_of_ble_eq_true rfl, Nat.le_of_ble_eq_true rfl⟩) (wk_preS hw) rfl rfl hl.1 rfl (lv_room (Nat.le_of_ble_eq_true rfl)) dX3_make_6 ⟨Nat.le_refl _, Nat.le_refl _⟩) (fun r21 en23 H locs hp22 hw => ?_)
  obtain ⟨hr24, hn25⟩ := hp22
  rw [hn25] at hw
  clear hn25
  refine lv_if_eq (tgt := 20) hx hb dX3_make_9 (by decide) (fun c9 => ?_) (fun c9 => ?_)
  · have hkd := z01_f hr24 c9
    refine lv_iconst (v := (-1)) hx hb dX3_make_20 (by decide) ?_
    refine we_i hx hb hr hlocks hw ?_ dX3_make_21
    have hS := sMake_no (A := A) hkd
    exact ⟨hS.1.symm, by rw [hS.2]; exact ⟨O, an, wy, pla, hokO, hMz⟩, fun j hj => w_fr hE2 (by omega)⟩
  · have hkd := z01_t hr24 c9
    obtain ⟨k, hk, ekd⟩ := okK_of hkd
    subst ekd
    refine lv_aload_n hx hb dX3_make_12 rfl (lv_at hl 0 rfl) ?_
    refine lv_iload_n hx hb dX3_make_13 rfl (lv_at hl 1 rfl) ?_
    refine wc_i hw (va_runV (As := [.int (nI k)]) (rest := []) ⟨hx, hb, hml, hown, hts⟩ (kX3_makes l dC dI q ad en3 n _ hn58 0 A O pl cs an wy pla hok hMz k hk) (cwV 1 hts gX3_make_X3_makes rfl rfl rfl (by decide +kernel) ⟨Nat.le_of_ble_eq_true rfl, Nat.le_of_ble_eq_true rfl⟩) (wk_preV hw (by omega) ot20 rfl) rfl rfl hl.1 rfl (lv_room (Nat.le_of_ble_eq_true rfl)) dX3_make_14 ⟨Nat.le_refl _, Nat.le_refl _⟩) (fun r26 en28 H locs hp27 hw => ?_)
    obtain ⟨hr1, hM1, hfr1⟩ := hp27
    refine lv_goto (tgt := 21) hx hb dX3_make_17 (by decide) ?_
    refine we_i hx hb hr hlocks hw ?_ dX3_make_21
    have hS := sMake_ok (A := A) hk
    exact ⟨by rw [hS.1]; exact hr1, by rw [hS.2]; exact ⟨O, an, wy, pla, hokO, hM1⟩, fun j hj => (hfr1 j hj).trans (w_fr hE2 (by omega))⟩

set_option maxHeartbeats 4000000 in
set_option maxRecDepth 100000 in
theorem kX3_drop (l : Launch) (dC : Nat → ClassId) (dI : Nat → Nat → Nat) (q : ClassId × ClassId × ClassId × ClassId) (ad : Nat → Nat) (en : Nat → va_E) (n sz : Nat) (hn58 : 58 ≤ n) (th : Int32) (A : Ast) (pl : Nat → Pst) (cs : Nat → Int32) (hok : Aok A) (hpok : ∀ i, i < 10 → Pok (pl i)) (hM0 : ModAt q ad en th A pl cs) (kd z : Int32) :
    Met l yX3_drop wsX3_drop ({ frames := 3, cells := 0, slots := 0, locals := 64 }) (wPc (dC, dI) vwCl (wT q) ad en n sz [.ref (ad 42), .int kd, .int z]) (va_Qi (fun (r : Int32) (en' : Nat → va_E) => r = (if aIs kd z A = true then 1 else 0) ∧ ModAt q ad en' 0 (aDropI kd z A) pl cs ∧ ∀ j, (j < 42 ∨ 58 ≤ j) → en' j = en j) (wB (dC, dI) vwCl (wT q) ad n (wA ad n sz)) (wA ad n sz)) 0 0 (wA ad n sz) := by
  refine Met.ofW (cc := cX3_drop) (maxL := 3) (ret := (some .boolean)) (by decide) rfl ?_
  intro p e s m args below meth c s₁ B hml hv
  obtain ⟨rfl, hsz, hP, hK, hD0, hE0⟩ := hv
  have hx := B.exec
  have hb := B.bytes
  have hr := B.returns
  have hts := atoms_spec (ws := wsX3_drop) B.pre
  have hown : s.vm.findClass RX3 = some m.cls := findClass_of_methodNamed B.named
  have hlocks := B.notSynchronized
  have iRX3 : ∀ w ∈ u_ws RX3 TX3 21, w ∈ wsX3_drop := by decide +kernel
  subst hsz
  have hw := wk_of hP hK hD0 hE0
  generalize wA ad n s.heap.size = AA at hw ⊢
  have hl := lv_entry ([.ref (ad 42), .int kd, .int z]) (n := 3) (Nat.le_of_ble_eq_true rfl)
  rw [lg_entry_eq]
  generalize (lg_sl ([.ref (ad 42), .int kd, .int z]) ++ List.replicate (3 - (lg_sl ([.ref (ad 42), .int kd, .int z])).length) Slot.unset).toArray = ls at hl ⊢
  have hl : lv_has ls 3 [(0, .ref (ad 42)), (1, .int kd), (2, .int z)] := hl
  obtain ⟨O, an, wy, pla, hokO, hM⟩ := hM0
  have hcn := hok.2
  obtain ⟨ot1, ⟨hFt1, mFt1, tFt1, rFt1, a1t1, a2t1, a3t1, a4t1, hRt1⟩, ⟨oht1, omt1, ott1, orrt1, b1t1, b2t1, b3t1, b4t1, hOt1⟩, ⟨wFt1, sFt1, kFt1, aFt1, fFt1, xFt1, c1t1, c2t1, c3t1, c4t1, c5t1, c6t1, hPlt1⟩, ⟨gFt1, e1t1, hTt1⟩⟩ := id hM
  refine lv_aload_n hx hb dX3_drop_0 rfl (lv_at hl 0 rfl) ?_
  refine lv_iconst (v := 0) hx hb dX3_drop_1 (by decide) ?_
  refine wr_put (ci := 4) (v := .int 0) (ty := .int) (C := RX3) (T := TX3) (N := 21) hx hb hts iRX3 tyX3 tyX3_ok nmX3 hown hw 42 (by omega) ot1 rfl 0 (by decide) (hts (.fieldLink RX3 57 "LibraryDeskModel" "thrown" "I") (by decide +kernel)) (fun _ h9 => h9) rfl (by decide +kernel) rfl rfl (Nat.le_of_ble_eq_true rfl) dX3_drop_2 (fun en3 H locs hE2 hw => ?_)
  have he4 : en3 42 = .inr (4, [.int 0, .ref (ad 43), .ref (ad 44), .ref (ad 45), .ref (ad 46), .int (nI (aCn A)), .ref (ad 47), .ref (ad 48), .ref (ad 49), .ref (ad 50), .int (nI (aCn O)), .ref (ad 51), .ref (ad 52), .ref (ad 53), .ref (ad 54), .ref (ad 55), .ref (ad 56), .ref (ad 57), .long an, .int wy, .int pla]) := w_self hE2
  have he5 : en3 43 = .inl (q.2.2.1, 328, .inl hFt1) := w_ne hE2 (by omega) a1t1
  have he6 : en3 44 = .inl (q.1, 8, .inl mFt1) := w_ne hE2 (by omega) a2t1
  have he7 : en3 45 = .inl (q.2.1, 8, .inr (.inl tFt1)) := w_ne hE2 (by omega) a3t1
  have he8 : en3 46 = .inl (q.2.1, 20, .inr (.inl rFt1)) := w_ne hE2 (by omega) a4t1
  have he9 : en3 47 = .inl (q.2.2.1, 328, .inl oht1) := w_ne hE2 (by omega) b1t1
  have he10 : en3 48 = .inl (q.1, 8, .inl omt1) := w_ne hE2 (by omega) b2t1
  have he11 : en3 49 = .inl (q.2.1, 8, .inr (.inl ott1)) := w_ne hE2 (by omega) b3t1
  have he12 : en3 50 = .inl (q.2.1, 20, .inr (.inl orrt1)) := w_ne hE2 (by omega) b4t1
  have he13 : en3 51 = .inl (q.1, 10, .inl wFt1) := w_ne hE2 (by omega) c1t1
  have he14 : en3 52 = .inl (q.1, 60, .inl sFt1) := w_ne hE2 (by omega) c2t1
  have he15 : en3 53 = .inl (q.1, 60, .inl kFt1) := w_ne hE2 (by omega) c3t1
  have he16 : en3 54 = .inl (q.1, 10, .inl aFt1) := w_ne hE2 (by omega) c4t1
  have he17 : en3 55 = .inl (q.1, 10, .inl fFt1) := w_ne hE2 (by omega) c5t1
  have he18 : en3 56 = .inl (q.1, 10, .inl xFt1) := w_ne hE2 (by omega) c6t1
  have he19 : en3 57 = .inl (q.1, 7, .inl gFt1) := w_ne hE2 (by omega) e1t1
  have hMz : ModC q ad en3 0 A O pl cs an wy pla := ⟨he4, ⟨_, _, _, _, he5, he6, he7, he8, hRt1⟩, ⟨_, _, _, _, he9, he10, he11, he12, hOt1⟩, ⟨_, _, _, _, _, _, he13, he14, he15, he16, he17, he18, hPlt1⟩, ⟨_, he19, hTt1⟩⟩
  obtain ⟨ot20, ⟨hFt20, mFt20, tFt20, rFt20, a1t20, a2t20, a3t20, a4t20, hRt20⟩, ⟨oht20, omt20, ott20, orrt20, b1t20, b2t20, b3t20, b4t20, hOt20⟩, ⟨wFt20, sFt20, kFt20, aFt20, fFt20, xFt20, c1t20, c2t20, c3t20, c4t20, c5t20, c6t20, hPlt20⟩, ⟨gFt20, e1t20, hTt20⟩⟩ := id hMz
  refine lv_aload_n hx hb dX3_drop_5 rfl (lv_at hl 0 rfl) ?_
  refine lv_iload_n hx hb dX3_drop_6 rfl (lv_at hl 1 rfl) ?_
  refine lv_iload_n hx hb dX3_drop_7 rfl (lv_at hl 2 rfl) ?_
  refine wc_i hw (va_runV (As := [.int kd, .int z]) (rest := []) ⟨hx, hb, hml, hown, hts⟩ (kX3_drops l dC dI q ad en3 n _ hn58 0 A O pl cs an wy pla hok hMz kd z) (cwV 2 hts gX3_drop_X3_drops rfl rfl rfl (by decide +kernel) ⟨Nat.le_of_ble_eq_true rfl, Nat.le_of_ble_eq_true rfl⟩) (wk_preV hw (by omega) ot20 rfl) rfl rfl hl.1 rfl (lv_room (Nat.le_of_ble_eq_true rfl)) dX3_drop_8 ⟨Nat.le_refl _, Nat.le_refl _⟩) (fun r21 en23 H locs hp22 hw => ?_)
  obtain ⟨hr1, hM1, hfr1⟩ := hp22
  refine we_z hx hb hr hlocks hw (z01_r hr1) ?_ dX3_drop_11
  exact ⟨hr1, ⟨O, an, wy, pla, hokO, hM1⟩, fun j hj => (hfr1 j hj).trans (w_fr hE2 (by omega))⟩

set_option maxHeartbeats 4000000 in
set_option maxRecDepth 100000 in
theorem kX3_here (l : Launch) (dC : Nat → ClassId) (dI : Nat → Nat → Nat) (q : ClassId × ClassId × ClassId × ClassId) (ad : Nat → Nat) (en : Nat → va_E) (n sz : Nat) (hn58 : 58 ≤ n) (th : Int32) (A : Ast) (pl : Nat → Pst) (cs : Nat → Int32) (hok : Aok A) (hpok : ∀ i, i < 10 → Pok (pl i)) (hM0 : ModAt q ad en th A pl cs) (kd z : Int32) :
    Met l yX3_here wsX3_here ({ frames := 2, cells := 0, slots := 0, locals := 42 }) (wPc (dC, dI) vwCl (wT q) ad en n sz [.ref (ad 42), .int kd, .int z]) (va_Qi (fun (r : Int32) (en' : Nat → va_E) => r = (if aIs kd z A = true then 1 else 0) ∧ ModAt q ad en' 0 A pl cs ∧ ∀ j, (j < 42 ∨ 58 ≤ j) → en' j = en j) (wB (dC, dI) vwCl (wT q) ad n (wA ad n sz)) (wA ad n sz)) 0 0 (wA ad n sz) := by
  refine Met.ofW (cc := cX3_here) (maxL := 3) (ret := (some .boolean)) (by decide) rfl ?_
  intro p e s m args below meth c s₁ B hml hv
  obtain ⟨rfl, hsz, hP, hK, hD0, hE0⟩ := hv
  have hx := B.exec
  have hb := B.bytes
  have hr := B.returns
  have hts := atoms_spec (ws := wsX3_here) B.pre
  have hown : s.vm.findClass RX3 = some m.cls := findClass_of_methodNamed B.named
  have hlocks := B.notSynchronized
  have iRX3 : ∀ w ∈ u_ws RX3 TX3 21, w ∈ wsX3_here := by decide +kernel
  subst hsz
  have hw := wk_of hP hK hD0 hE0
  generalize wA ad n s.heap.size = AA at hw ⊢
  have hl := lv_entry ([.ref (ad 42), .int kd, .int z]) (n := 3) (Nat.le_of_ble_eq_true rfl)
  rw [lg_entry_eq]
  generalize (lg_sl ([.ref (ad 42), .int kd, .int z]) ++ List.replicate (3 - (lg_sl ([.ref (ad 42), .int kd, .int z])).length) Slot.unset).toArray = ls at hl ⊢
  have hl : lv_has ls 3 [(0, .ref (ad 42)), (1, .int kd), (2, .int z)] := hl
  obtain ⟨O, an, wy, pla, hokO, hM⟩ := hM0
  have hcn := hok.2
  obtain ⟨ot1, ⟨hFt1, mFt1, tFt1, rFt1, a1t1, a2t1, a3t1, a4t1, hRt1⟩, ⟨oht1, omt1, ott1, orrt1, b1t1, b2t1, b3t1, b4t1, hOt1⟩, ⟨wFt1, sFt1, kFt1, aFt1, fFt1, xFt1, c1t1, c2t1, c3t1, c4t1, c5t1, c6t1, hPlt1⟩, ⟨gFt1, e1t1, hTt1⟩⟩ := id hM
  refine lv_aload_n hx hb dX3_here_0 rfl (lv_at hl 0 rfl) ?_
  refine lv_iconst (v := 0) hx hb dX3_here_1 (by decide) ?_
  refine wr_put (ci := 4) (v := .int 0) (ty := .int) (C := RX3) (T := TX3) (N := 21) hx hb hts iRX3 tyX3 tyX3_ok nmX3 hown hw 42 (by omega) ot1 rfl 0 (by decide) (hts (.fieldLink RX3 57 "LibraryDeskModel" "thrown" "I") (by decide +kernel)) (fun _ h9 => h9) rfl (by decide +kernel) rfl rfl (Nat.le_of_ble_eq_true rfl) dX3_here_2 (fun en3 H locs hE2 hw => ?_)
  have he4 : en3 42 = .inr (4, [.int 0, .ref (ad 43), .ref (ad 44), .ref (ad 45), .ref (ad 46), .int (nI (aCn A)), .ref (ad 47), .ref (ad 48), .ref (ad 49), .ref (ad 50), .int (nI (aCn O)), .ref (ad 51), .ref (ad 52), .ref (ad 53), .ref (ad 54), .ref (ad 55), .ref (ad 56), .ref (ad 57), .long an, .int wy, .int pla]) := w_self hE2
  have he5 : en3 43 = .inl (q.2.2.1, 328, .inl hFt1) := w_ne hE2 (by omega) a1t1
  have he6 : en3 44 = .inl (q.1, 8, .inl mFt1) := w_ne hE2 (by omega) a2t1
  have he7 : en3 45 = .inl (q.2.1, 8, .inr (.inl tFt1)) := w_ne hE2 (by omega) a3t1
  have he8 : en3 46 = .inl (q.2.1, 20, .inr (.inl rFt1)) := w_ne hE2 (by omega) a4t1
  have he9 : en3 47 = .inl (q.2.2.1, 328, .inl oht1) := w_ne hE2 (by omega) b1t1
  have he10 : en3 48 = .inl (q.1, 8, .inl omt1) := w_ne hE2 (by omega) b2t1
  have he11 : en3 49 = .inl (q.2.1, 8, .inr (.inl ott1)) := w_ne hE2 (by omega) b3t1
  have he12 : en3 50 = .inl (q.2.1, 20, .inr (.inl orrt1)) := w_ne hE2 (by omega) b4t1
  have he13 : en3 51 = .inl (q.1, 10, .inl wFt1) := w_ne hE2 (by omega) c1t1
  have he14 : en3 52 = .inl (q.1, 60, .inl sFt1) := w_ne hE2 (by omega) c2t1
  have he15 : en3 53 = .inl (q.1, 60, .inl kFt1) := w_ne hE2 (by omega) c3t1
  have he16 : en3 54 = .inl (q.1, 10, .inl aFt1) := w_ne hE2 (by omega) c4t1
  have he17 : en3 55 = .inl (q.1, 10, .inl fFt1) := w_ne hE2 (by omega) c5t1
  have he18 : en3 56 = .inl (q.1, 10, .inl xFt1) := w_ne hE2 (by omega) c6t1
  have he19 : en3 57 = .inl (q.1, 7, .inl gFt1) := w_ne hE2 (by omega) e1t1
  have hMz : ModC q ad en3 0 A O pl cs an wy pla := ⟨he4, ⟨_, _, _, _, he5, he6, he7, he8, hRt1⟩, ⟨_, _, _, _, he9, he10, he11, he12, hOt1⟩, ⟨_, _, _, _, _, _, he13, he14, he15, he16, he17, he18, hPlt1⟩, ⟨_, he19, hTt1⟩⟩
  obtain ⟨ot20, ⟨hFt20, mFt20, tFt20, rFt20, a1t20, a2t20, a3t20, a4t20, hRt20⟩, ⟨oht20, omt20, ott20, orrt20, b1t20, b2t20, b3t20, b4t20, hOt20⟩, ⟨wFt20, sFt20, kFt20, aFt20, fFt20, xFt20, c1t20, c2t20, c3t20, c4t20, c5t20, c6t20, hPlt20⟩, ⟨gFt20, e1t20, hTt20⟩⟩ := id hMz
  refine lv_aload_n hx hb dX3_here_5 rfl (lv_at hl 0 rfl) ?_
  refine lv_iload_n hx hb dX3_here_6 rfl (lv_at hl 1 rfl) ?_
  refine lv_iload_n hx hb dX3_here_7 rfl (lv_at hl 2 rfl) ?_
  refine wc_i hw (va_runV (As := [.int kd, .int z]) (rest := []) ⟨hx, hb, hml, hown, hts⟩ (kX3_isHere l dC dI q ad en3 n _ hn58 0 A O pl cs an wy pla hok hMz kd z) (cwV 2 hts gX3_here_X3_isHere rfl rfl rfl (by decide +kernel) ⟨Nat.le_of_ble_eq_true rfl, Nat.le_of_ble_eq_true rfl⟩) (wk_preV hw (by omega) ot20 rfl) rfl rfl hl.1 rfl (lv_room (Nat.le_of_ble_eq_true rfl)) dX3_here_8 ⟨Nat.le_refl _, Nat.le_refl _⟩) (fun r21 en23 H locs hp22 hw => ?_)
  obtain ⟨hr24, hn25⟩ := hp22
  rw [hn25] at hw
  clear hn25
  have hr1 := hr24
  refine we_z hx hb hr hlocks hw (z01_r hr1) ?_ dX3_here_11
  exact ⟨hr1, ⟨O, an, wy, pla, hokO, hMz⟩, fun j hj => w_fr hE2 (by omega)⟩

set_option maxHeartbeats 4000000 in
set_option maxRecDepth 100000 in
theorem kX3_numbers (l : Launch) (dC : Nat → ClassId) (dI : Nat → Nat → Nat) (q : ClassId × ClassId × ClassId × ClassId) (ad : Nat → Nat) (en : Nat → va_E) (n sz : Nat) (hn58 : 58 ≤ n) (th : Int32) (A : Ast) (pl : Nat → Pst) (cs : Nat → Int32) (hok : Aok A) (hpok : ∀ i, i < 10 → Pok (pl i)) (hM0 : ModAt q ad en th A pl cs) (kd : Int32) :
    Met l yX3_numbers wsX3_numbers ({ frames := 1, cells := 0, slots := 0, locals := 23 }) (wPc (dC, dI) vwCl (wT q) ad en n sz [.ref (ad 42), .int kd]) (va_Qi (fun (r : Int32) (en' : Nat → va_E) => r = sNumR kd A ∧ ModAt q ad en' 0 A pl cs ∧ ∀ j, (j < 42 ∨ 58 ≤ j) → en' j = en j) (wB (dC, dI) vwCl (wT q) ad n (wA ad n sz)) (wA ad n sz)) 0 0 (wA ad n sz) := by
  refine Met.ofW (cc := cX3_numbers) (maxL := 2) (ret := (some .int)) (by decide) rfl ?_
  intro p e s m args below meth c s₁ B hml hv
  obtain ⟨rfl, hsz, hP, hK, hD0, hE0⟩ := hv
  have hx := B.exec
  have hb := B.bytes
  have hr := B.returns
  have hts := atoms_spec (ws := wsX3_numbers) B.pre
  have hown : s.vm.findClass RX3 = some m.cls := findClass_of_methodNamed B.named
  have hlocks := B.notSynchronized
  have iRX3 : ∀ w ∈ u_ws RX3 TX3 21, w ∈ wsX3_numbers := by decide +kernel
  subst hsz
  have hw := wk_of hP hK hD0 hE0
  generalize wA ad n s.heap.size = AA at hw ⊢
  have hl := lv_entry ([.ref (ad 42), .int kd]) (n := 2) (Nat.le_of_ble_eq_true rfl)
  rw [lg_entry_eq]
  generalize (lg_sl ([.ref (ad 42), .int kd]) ++ List.replicate (2 - (lg_sl ([.ref (ad 42), .int kd])).length) Slot.unset).toArray = ls at hl ⊢
  have hl : lv_has ls 2 [(0, .ref (ad 42)), (1, .int kd)] := hl
  obtain ⟨O, an, wy, pla, hokO, hM⟩ := hM0
  have hcn := hok.2
  obtain ⟨ot1, ⟨hFt1, mFt1, tFt1, rFt1, a1t1, a2t1, a3t1, a4t1, hRt1⟩, ⟨oht1, omt1, ott1, orrt1, b1t1, b2t1, b3t1, b4t1, hOt1⟩, ⟨wFt1, sFt1, kFt1, aFt1, fFt1, xFt1, c1t1, c2t1, c3t1, c4t1, c5t1, c6t1, hPlt1⟩, ⟨gFt1, e1t1, hTt1⟩⟩ := id hM
  refine lv_aload_n hx hb dX3_numbers_0 rfl (lv_at hl 0 rfl) ?_
  refine lv_iconst (v := 0) hx hb dX3_numbers_1 (by decide) ?_
  refine wr_put (ci := 4) (v := .int 0) (ty := .int) (C := RX3) (T := TX3) (N := 21) hx hb hts iRX3 tyX3 tyX3_ok nmX3 hown hw 42 (by omega) ot1 rfl 0 (by decide) (hts (.fieldLink RX3 57 "LibraryDeskModel" "thrown" "I") (by decide +kernel)) (fun _ h9 => h9) rfl (by decide +kernel) rfl rfl (Nat.le_of_ble_eq_true rfl) dX3_numbers_2 (fun en3 H locs hE2 hw => ?_)
  have he4 : en3 42 = .inr (4, [.int 0, .ref (ad 43), .ref (ad 44), .ref (ad 45), .ref (ad 46), .int (nI (aCn A)), .ref (ad 47), .ref (ad 48), .ref (ad 49), .ref (ad 50), .int (nI (aCn O)), .ref (ad 51), .ref (ad 52), .ref (ad 53), .ref (ad 54), .ref (ad 55), .ref (ad 56), .ref (ad 57), .long an, .int wy, .int pla]) := w_self hE2
  have he5 : en3 43 = .inl (q.2.2.1, 328, .inl hFt1) := w_ne hE2 (by omega) a1t1
  have he6 : en3 44 = .inl (q.1, 8, .inl mFt1) := w_ne hE2 (by omega) a2t1
  have he7 : en3 45 = .inl (q.2.1, 8, .inr (.inl tFt1)) := w_ne hE2 (by omega) a3t1
  have he8 : en3 46 = .inl (q.2.1, 20, .inr (.inl rFt1)) := w_ne hE2 (by omega) a4t1
  have he9 : en3 47 = .inl (q.2.2.1, 328, .inl oht1) := w_ne hE2 (by omega) b1t1
  have he10 : en3 48 = .inl (q.1, 8, .inl omt1) := w_ne hE2 (by omega) b2t1
  have he11 : en3 49 = .inl (q.2.1, 8, .inr (.inl ott1)) := w_ne hE2 (by omega) b3t1
  have he12 : en3 50 = .inl (q.2.1, 20, .inr (.inl orrt1)) := w_ne hE2 (by omega) b4t1
  have he13 : en3 51 = .inl (q.1, 10, .inl wFt1) := w_ne hE2 (by omega) c1t1
  have he14 : en3 52 = .inl (q.1, 60, .inl sFt1) := w_ne hE2 (by omega) c2t1
  have he15 : en3 53 = .inl (q.1, 60, .inl kFt1) := w_ne hE2 (by omega) c3t1
  have he16 : en3 54 = .inl (q.1, 10, .inl aFt1) := w_ne hE2 (by omega) c4t1
  have he17 : en3 55 = .inl (q.1, 10, .inl fFt1) := w_ne hE2 (by omega) c5t1
  have he18 : en3 56 = .inl (q.1, 10, .inl xFt1) := w_ne hE2 (by omega) c6t1
  have he19 : en3 57 = .inl (q.1, 7, .inl gFt1) := w_ne hE2 (by omega) e1t1
  have hMz : ModC q ad en3 0 A O pl cs an wy pla := ⟨he4, ⟨_, _, _, _, he5, he6, he7, he8, hRt1⟩, ⟨_, _, _, _, he9, he10, he11, he12, hOt1⟩, ⟨_, _, _, _, _, _, he13, he14, he15, he16, he17, he18, hPlt1⟩, ⟨_, he19, hTt1⟩⟩
  obtain ⟨ot20, ⟨hFt20, mFt20, tFt20, rFt20, a1t20, a2t20, a3t20, a4t20, hRt20⟩, ⟨oht20, omt20, ott20, orrt20, b1t20, b2t20, b3t20, b4t20, hOt20⟩, ⟨wFt20, sFt20, kFt20, aFt20, fFt20, xFt20, c1t20, c2t20, c3t20, c4t20, c5t20, c6t20, hPlt20⟩, ⟨gFt20, e1t20, hTt20⟩⟩ := id hMz
  refine lv_iload_n hx hb dX3_numbers_5 rfl (lv_at hl 1 rfl) ?_
  refine wc_i hw (va_runS (As := [.int kd]) (rest := []) ⟨hx, hb, hml, hown, hts⟩ (kX3_isKind l dC dI q ad en3 n _ kd) (va_cwS 1 hts gX3_numbers_X3_isKind rfl rfl rfl (by decide +kernel) ⟨Nat.le_of_ble_eq_true rfl, Nat.le_of_ble_eq_true rfl⟩) (wk_preS hw) rfl rfl hl.1 rfl (lv_room (Nat.le_of_ble_eq_true rfl)) dX3_numbers_6 ⟨Nat.le_refl _, Nat.le_refl _⟩) (fun r21 en23 H locs hp22 hw => ?_)
  obtain ⟨hr24, hn25⟩ := hp22
  rw [hn25] at hw
  clear hn25
  refine lv_if_eq (tgt := 20) hx hb dX3_numbers_9 (by decide) (fun c9 => ?_) (fun c9 => ?_)
  · have hkd := z01_f hr24 c9
    refine lv_iconst (v := (-1)) hx hb dX3_numbers_20 (by decide) ?_
    refine we_i hx hb hr hlocks hw ?_ dX3_numbers_21
    exact ⟨by unfold sNumR; rw [if_neg hkd], ⟨O, an, wy, pla, hokO, hMz⟩, fun j hj => w_fr hE2 (by omega)⟩
  · have hkd := z01_t hr24 c9
    obtain ⟨k, hk, ekd⟩ := okK_of hkd
    subst ekd
    refine lv_aload_n hx hb dX3_numbers_12 rfl (lv_at hl 0 rfl) ?_
    refine lv_iload_n hx hb dX3_numbers_13 rfl (lv_at hl 1 rfl) ?_
    refine wc_i hw (va_runV (As := [.int (nI k)]) (rest := []) ⟨hx, hb, hml, hown, hts⟩ (kX3_many l dC dI q ad en3 n _ hn58 0 A O pl cs an wy pla hok hMz k hk) (cwV 1 hts gX3_numbers_X3_many rfl rfl rfl (by decide +kernel) ⟨Nat.le_of_ble_eq_true rfl, Nat.le_of_ble_eq_true rfl⟩) (wk_preV hw (by omega) ot20 rfl) rfl rfl hl.1 rfl (lv_room (Nat.le_of_ble_eq_true rfl)) dX3_numbers_14 ⟨Nat.le_refl _, Nat.le_refl _⟩) (fun r26 en28 H locs hp27 hw => ?_)
    obtain ⟨hr29, hn30⟩ := hp27
    rw [hn30] at hw
    clear hn30
    have hr1 := hr29
    refine lv_goto (tgt := 21) hx hb dX3_numbers_17 (by decide) ?_
    refine we_i hx hb hr hlocks hw ?_ dX3_numbers_21
    exact ⟨by rw [sNum_ok hk, hr1], ⟨O, an, wy, pla, hokO, hMz⟩, fun j hj => w_fr hE2 (by omega)⟩

set_option maxHeartbeats 4000000 in
set_option maxRecDepth 100000 in
theorem kX3_tally (l : Launch) (dC : Nat → ClassId) (dI : Nat → Nat → Nat) (q : ClassId × ClassId × ClassId × ClassId) (ad : Nat → Nat) (en : Nat → va_E) (n sz : Nat) (hn58 : 58 ≤ n) (th : Int32) (A : Ast) (pl : Nat → Pst) (cs : Nat → Int32) (hok : Aok A) (hpok : ∀ i, i < 10 → Pok (pl i)) (hM0 : ModAt q ad en th A pl cs) (kd : Int32) :
    Met l yX3_tally wsX3_tally ({ frames := 1, cells := 0, slots := 0, locals := 20 }) (wPc (dC, dI) vwCl (wT q) ad en n sz [.ref (ad 42), .int kd]) (va_Ql (fun (r : Int64) (en' : Nat → va_E) => r = sTalR kd A ∧ ModAt q ad en' 0 A pl cs ∧ ∀ j, (j < 42 ∨ 58 ≤ j) → en' j = en j) (wB (dC, dI) vwCl (wT q) ad n (wA ad n sz)) (wA ad n sz)) 0 0 (wA ad n sz) := by
  refine Met.ofW (cc := cX3_tally) (maxL := 2) (ret := (some .long)) (by decide) rfl ?_
  intro p e s m args below meth c s₁ B hml hv
  obtain ⟨rfl, hsz, hP, hK, hD0, hE0⟩ := hv
  have hx := B.exec
  have hb := B.bytes
  have hr := B.returns
  have hts := atoms_spec (ws := wsX3_tally) B.pre
  have hown : s.vm.findClass RX3 = some m.cls := findClass_of_methodNamed B.named
  have hlocks := B.notSynchronized
  have iRX3 : ∀ w ∈ u_ws RX3 TX3 21, w ∈ wsX3_tally := by decide +kernel
  subst hsz
  have hw := wk_of hP hK hD0 hE0
  generalize wA ad n s.heap.size = AA at hw ⊢
  have hl := lv_entry ([.ref (ad 42), .int kd]) (n := 2) (Nat.le_of_ble_eq_true rfl)
  rw [lg_entry_eq]
  generalize (lg_sl ([.ref (ad 42), .int kd]) ++ List.replicate (2 - (lg_sl ([.ref (ad 42), .int kd])).length) Slot.unset).toArray = ls at hl ⊢
  have hl : lv_has ls 2 [(0, .ref (ad 42)), (1, .int kd)] := hl
  obtain ⟨O, an, wy, pla, hokO, hM⟩ := hM0
  have hcn := hok.2
  obtain ⟨ot1, ⟨hFt1, mFt1, tFt1, rFt1, a1t1, a2t1, a3t1, a4t1, hRt1⟩, ⟨oht1, omt1, ott1, orrt1, b1t1, b2t1, b3t1, b4t1, hOt1⟩, ⟨wFt1, sFt1, kFt1, aFt1, fFt1, xFt1, c1t1, c2t1, c3t1, c4t1, c5t1, c6t1, hPlt1⟩, ⟨gFt1, e1t1, hTt1⟩⟩ := id hM
  refine lv_aload_n hx hb dX3_tally_0 rfl (lv_at hl 0 rfl) ?_
  refine lv_iconst (v := 0) hx hb dX3_tally_1 (by decide) ?_
  refine wr_put (ci := 4) (v := .int 0) (ty := .int) (C := RX3) (T := TX3) (N := 21) hx hb hts iRX3 tyX3 tyX3_ok nmX3 hown hw 42 (by omega) ot1 rfl 0 (by decide) (hts (.fieldLink RX3 57 "LibraryDeskModel" "thrown" "I") (by decide +kernel)) (fun _ h9 => h9) rfl (by decide +kernel) rfl rfl (Nat.le_of_ble_eq_true rfl) dX3_tally_2 (fun en3 H locs hE2 hw => ?_)
  have he4 : en3 42 = .inr (4, [.int 0, .ref (ad 43), .ref (ad 44), .ref (ad 45), .ref (ad 46), .int (nI (aCn A)), .ref (ad 47), .ref (ad 48), .ref (ad 49), .ref (ad 50), .int (nI (aCn O)), .ref (ad 51), .ref (ad 52), .ref (ad 53), .ref (ad 54), .ref (ad 55), .ref (ad 56), .ref (ad 57), .long an, .int wy, .int pla]) := w_self hE2
  have he5 : en3 43 = .inl (q.2.2.1, 328, .inl hFt1) := w_ne hE2 (by omega) a1t1
  have he6 : en3 44 = .inl (q.1, 8, .inl mFt1) := w_ne hE2 (by omega) a2t1
  have he7 : en3 45 = .inl (q.2.1, 8, .inr (.inl tFt1)) := w_ne hE2 (by omega) a3t1
  have he8 : en3 46 = .inl (q.2.1, 20, .inr (.inl rFt1)) := w_ne hE2 (by omega) a4t1
  have he9 : en3 47 = .inl (q.2.2.1, 328, .inl oht1) := w_ne hE2 (by omega) b1t1
  have he10 : en3 48 = .inl (q.1, 8, .inl omt1) := w_ne hE2 (by omega) b2t1
  have he11 : en3 49 = .inl (q.2.1, 8, .inr (.inl ott1)) := w_ne hE2 (by omega) b3t1
  have he12 : en3 50 = .inl (q.2.1, 20, .inr (.inl orrt1)) := w_ne hE2 (by omega) b4t1
  have he13 : en3 51 = .inl (q.1, 10, .inl wFt1) := w_ne hE2 (by omega) c1t1
  have he14 : en3 52 = .inl (q.1, 60, .inl sFt1) := w_ne hE2 (by omega) c2t1
  have he15 : en3 53 = .inl (q.1, 60, .inl kFt1) := w_ne hE2 (by omega) c3t1
  have he16 : en3 54 = .inl (q.1, 10, .inl aFt1) := w_ne hE2 (by omega) c4t1
  have he17 : en3 55 = .inl (q.1, 10, .inl fFt1) := w_ne hE2 (by omega) c5t1
  have he18 : en3 56 = .inl (q.1, 10, .inl xFt1) := w_ne hE2 (by omega) c6t1
  have he19 : en3 57 = .inl (q.1, 7, .inl gFt1) := w_ne hE2 (by omega) e1t1
  have hMz : ModC q ad en3 0 A O pl cs an wy pla := ⟨he4, ⟨_, _, _, _, he5, he6, he7, he8, hRt1⟩, ⟨_, _, _, _, he9, he10, he11, he12, hOt1⟩, ⟨_, _, _, _, _, _, he13, he14, he15, he16, he17, he18, hPlt1⟩, ⟨_, he19, hTt1⟩⟩
  obtain ⟨ot20, ⟨hFt20, mFt20, tFt20, rFt20, a1t20, a2t20, a3t20, a4t20, hRt20⟩, ⟨oht20, omt20, ott20, orrt20, b1t20, b2t20, b3t20, b4t20, hOt20⟩, ⟨wFt20, sFt20, kFt20, aFt20, fFt20, xFt20, c1t20, c2t20, c3t20, c4t20, c5t20, c6t20, hPlt20⟩, ⟨gFt20, e1t20, hTt20⟩⟩ := id hMz
  refine lv_iload_n hx hb dX3_tally_5 rfl (lv_at hl 1 rfl) ?_
  refine wc_i hw (va_runS (As := [.int kd]) (rest := []) ⟨hx, hb, hml, hown, hts⟩ (kX3_isKind l dC dI q ad en3 n _ kd) (va_cwS 1 hts gX3_tally_X3_isKind rfl rfl rfl (by decide +kernel) ⟨Nat.le_of_ble_eq_true rfl, Nat.le_of_ble_eq_true rfl⟩) (wk_preS hw) rfl rfl hl.1 rfl (lv_room (Nat.le_of_ble_eq_true rfl)) dX3_tally_6 ⟨Nat.le_refl _, Nat.le_refl _⟩) (fun r21 en23 H locs hp22 hw => ?_)
  obtain ⟨hr24, hn25⟩ := hp22
  rw [hn25] at hw
  clear hn25
  refine lv_if_eq (tgt := 21) hx hb dX3_tally_9 (by decide) (fun c9 => ?_) (fun c9 => ?_)
  · have hkd := z01_f hr24 c9
    refine lv_lconst (v := 0) hx hb dX3_tally_21 (by decide) ?_
    refine we_l hx hb hr hlocks hw ?_ dX3_tally_22
    exact ⟨by unfold sTalR; rw [if_neg hkd], ⟨O, an, wy, pla, hokO, hMz⟩, fun j hj => w_fr hE2 (by omega)⟩
  · have hkd := z01_t hr24 c9
    obtain ⟨k, hk, ekd⟩ := okK_of hkd
    subst ekd
    refine lv_aload_n hx hb dX3_tally_12 rfl (lv_at hl 0 rfl) ?_
    refine wr_get (ci := 4) (C := RX3) (T := TX3) (N := 21) hx hb hts iRX3 hown hw 42 (by omega) ot20 rfl 3 (by decide) (hts (.fieldLink RX3 17 "LibraryDeskModel" "tallies" "[J") (by decide +kernel)) (fun _ h9 => h9) rfl dX3_tally_13 ?_
    refine lv_iload_n hx hb dX3_tally_16 rfl (lv_at hl 1 rfl) ?_
    refine wr_lald (v := aTl A k) hx hb hw 45 (by omega) 1 a3t20 rfl (vp_in_nI (by omega) (by decide)) (by rw [(nI_clamp (by omega))]; exact (hRt20.2.1 k hk).2) dX3_tally_17 ?_
    refine lv_goto (tgt := 22) hx hb dX3_tally_18 (by decide) ?_
    refine we_l hx hb hr hlocks hw ?_ dX3_tally_22
    exact ⟨(sTal_ok hk).symm, ⟨O, an, wy, pla, hokO, hMz⟩, fun j hj => w_fr hE2 (by omega)⟩

set_option maxHeartbeats 4000000 in
set_option maxRecDepth 100000 in
theorem kX3_told (l : Launch) (dC : Nat → ClassId) (dI : Nat → Nat → Nat) (q : ClassId × ClassId × ClassId × ClassId) (ad : Nat → Nat) (en : Nat → va_E) (n sz : Nat) (hn58 : 58 ≤ n) (th : Int32) (A : Ast) (pl : Nat → Pst) (cs : Nat → Int32) (hok : Aok A) (hpok : ∀ i, i < 10 → Pok (pl i)) (hM0 : ModAt q ad en th A pl cs) (x : Int32) :
    Met l yX3_told wsX3_told ({ frames := 0, cells := 0, slots := 0, locals := 0 }) (wPc (dC, dI) vwCl (wT q) ad en n sz [.ref (ad 42), .int x]) (va_Qi (fun (r : Int32) (en' : Nat → va_E) => r = sToldR x cs ∧ ModAt q ad en' 0 A pl cs ∧ ∀ j, (j < 42 ∨ 58 ≤ j) → en' j = en j) (wB (dC, dI) vwCl (wT q) ad n (wA ad n sz)) (wA ad n sz)) 0 0 (wA ad n sz) := by
  refine Met.ofW (cc := cX3_told) (maxL := 2) (ret := (some .int)) (by decide) rfl ?_
  intro p e s m args below meth c s₁ B hml hv
  obtain ⟨rfl, hsz, hP, hK, hD0, hE0⟩ := hv
  have hx := B.exec
  have hb := B.bytes
  have hr := B.returns
  have hts := atoms_spec (ws := wsX3_told) B.pre
  have hown : s.vm.findClass RX3 = some m.cls := findClass_of_methodNamed B.named
  have hlocks := B.notSynchronized
  have iRX3 : ∀ w ∈ u_ws RX3 TX3 21, w ∈ wsX3_told := by decide +kernel
  subst hsz
  have hw := wk_of hP hK hD0 hE0
  generalize wA ad n s.heap.size = AA at hw ⊢
  have hl := lv_entry ([.ref (ad 42), .int x]) (n := 2) (Nat.le_of_ble_eq_true rfl)
  rw [lg_entry_eq]
  generalize (lg_sl ([.ref (ad 42), .int x]) ++ List.replicate (2 - (lg_sl ([.ref (ad 42), .int x])).length) Slot.unset).toArray = ls at hl ⊢
  have hl : lv_has ls 2 [(0, .ref (ad 42)), (1, .int x)] := hl
  obtain ⟨O, an, wy, pla, hokO, hM⟩ := hM0
  have hcn := hok.2
  obtain ⟨ot1, ⟨hFt1, mFt1, tFt1, rFt1, a1t1, a2t1, a3t1, a4t1, hRt1⟩, ⟨oht1, omt1, ott1, orrt1, b1t1, b2t1, b3t1, b4t1, hOt1⟩, ⟨wFt1, sFt1, kFt1, aFt1, fFt1, xFt1, c1t1, c2t1, c3t1, c4t1, c5t1, c6t1, hPlt1⟩, ⟨gFt1, e1t1, hTt1⟩⟩ := id hM
  refine lv_aload_n hx hb dX3_told_0 rfl (lv_at hl 0 rfl) ?_
  refine lv_iconst (v := 0) hx hb dX3_told_1 (by decide) ?_
  refine wr_put (ci := 4) (v := .int 0) (ty := .int) (C := RX3) (T := TX3) (N := 21) hx hb hts iRX3 tyX3 tyX3_ok nmX3 hown hw 42 (by omega) ot1 rfl 0 (by decide) (hts (.fieldLink RX3 57 "LibraryDeskModel" "thrown" "I") (by decide +kernel)) (fun _ h9 => h9) rfl (by decide +kernel) rfl rfl (Nat.le_of_ble_eq_true rfl) dX3_told_2 (fun en3 H locs hE2 hw => ?_)
  have he4 : en3 42 = .inr (4, [.int 0, .ref (ad 43), .ref (ad 44), .ref (ad 45), .ref (ad 46), .int (nI (aCn A)), .ref (ad 47), .ref (ad 48), .ref (ad 49), .ref (ad 50), .int (nI (aCn O)), .ref (ad 51), .ref (ad 52), .ref (ad 53), .ref (ad 54), .ref (ad 55), .ref (ad 56), .ref (ad 57), .long an, .int wy, .int pla]) := w_self hE2
  have he5 : en3 43 = .inl (q.2.2.1, 328, .inl hFt1) := w_ne hE2 (by omega) a1t1
  have he6 : en3 44 = .inl (q.1, 8, .inl mFt1) := w_ne hE2 (by omega) a2t1
  have he7 : en3 45 = .inl (q.2.1, 8, .inr (.inl tFt1)) := w_ne hE2 (by omega) a3t1
  have he8 : en3 46 = .inl (q.2.1, 20, .inr (.inl rFt1)) := w_ne hE2 (by omega) a4t1
  have he9 : en3 47 = .inl (q.2.2.1, 328, .inl oht1) := w_ne hE2 (by omega) b1t1
  have he10 : en3 48 = .inl (q.1, 8, .inl omt1) := w_ne hE2 (by omega) b2t1
  have he11 : en3 49 = .inl (q.2.1, 8, .inr (.inl ott1)) := w_ne hE2 (by omega) b3t1
  have he12 : en3 50 = .inl (q.2.1, 20, .inr (.inl orrt1)) := w_ne hE2 (by omega) b4t1
  have he13 : en3 51 = .inl (q.1, 10, .inl wFt1) := w_ne hE2 (by omega) c1t1
  have he14 : en3 52 = .inl (q.1, 60, .inl sFt1) := w_ne hE2 (by omega) c2t1
  have he15 : en3 53 = .inl (q.1, 60, .inl kFt1) := w_ne hE2 (by omega) c3t1
  have he16 : en3 54 = .inl (q.1, 10, .inl aFt1) := w_ne hE2 (by omega) c4t1
  have he17 : en3 55 = .inl (q.1, 10, .inl fFt1) := w_ne hE2 (by omega) c5t1
  have he18 : en3 56 = .inl (q.1, 10, .inl xFt1) := w_ne hE2 (by omega) c6t1
  have he19 : en3 57 = .inl (q.1, 7, .inl gFt1) := w_ne hE2 (by omega) e1t1
  have hMz : ModC q ad en3 0 A O pl cs an wy pla := ⟨he4, ⟨_, _, _, _, he5, he6, he7, he8, hRt1⟩, ⟨_, _, _, _, he9, he10, he11, he12, hOt1⟩, ⟨_, _, _, _, _, _, he13, he14, he15, he16, he17, he18, hPlt1⟩, ⟨_, he19, hTt1⟩⟩
  obtain ⟨ot20, ⟨hFt20, mFt20, tFt20, rFt20, a1t20, a2t20, a3t20, a4t20, hRt20⟩, ⟨oht20, omt20, ott20, orrt20, b1t20, b2t20, b3t20, b4t20, hOt20⟩, ⟨wFt20, sFt20, kFt20, aFt20, fFt20, xFt20, c1t20, c2t20, c3t20, c4t20, c5t20, c6t20, hPlt20⟩, ⟨gFt20, e1t20, hTt20⟩⟩ := id hMz
  refine lv_iload_n hx hb dX3_told_5 rfl (lv_at hl 1 rfl) ?_
  refine lv_if_lt (tgt := 15) hx hb dX3_told_6 (by decide) (fun c6 => ?_) (fun c6 => ?_)
  · refine lv_iconst (v := (-1)) hx hb dX3_told_15 (by decide) ?_
    refine lv_goto (tgt := 25) hx hb dX3_told_16 (by decide) ?_
    refine we_i hx hb hr hlocks hw ?_ dX3_told_25
    exact ⟨by unfold sToldR; rw [if_neg (fun h => absurd c6 (Int32.not_lt.mpr h.1))], ⟨O, an, wy, pla, hokO, hMz⟩, fun j hj => w_fr hE2 (by omega)⟩
  · refine lv_iload_n hx hb dX3_told_9 rfl (lv_at hl 1 rfl) ?_
    refine lv_bipush (v := 6) hx hb dX3_told_10 (by decide) ?_
    refine lv_icmp_le (tgt := 19) hx hb dX3_told_12 (by decide) (fun c12 => ?_) (fun c12 => ?_)
    · obtain ⟨k, hk, ex⟩ : ∃ k, k < 7 ∧ x = nI k := (kd_cases x (by decide)).resolve_right (fun h => h ⟨Int32.not_lt.mp c6, Int32.lt_of_le_of_lt c12 (by decide)⟩)
      subst ex
      refine lv_aload_n hx hb dX3_told_19 rfl (lv_at hl 0 rfl) ?_
      refine wr_get (ci := 4) (C := RX3) (T := TX3) (N := 21) hx hb hts iRX3 hown hw 42 (by omega) ot20 rfl 17 (by decide) (hts (.fieldLink RX3 54 "LibraryDeskModel" "told" "[I") (by decide +kernel)) (fun _ h9 => h9) rfl dX3_told_20 ?_
      refine lv_iload_n hx hb dX3_told_23 rfl (lv_at hl 1 rfl) ?_
      refine wr_iald (v := cs k) hx hb hw 57 (by omega) 0 e1t20 rfl (vp_in_nI (by omega) (by decide)) (by rw [(nI_clamp (by omega))]; exact hTt20 k hk) dX3_told_24 ?_
      refine we_i hx hb hr hlocks hw ?_ dX3_told_25
      exact ⟨(sTold_ok hk).symm, ⟨O, an, wy, pla, hokO, hMz⟩, fun j hj => w_fr hE2 (by omega)⟩
    · refine lv_iconst (v := (-1)) hx hb dX3_told_15 (by decide) ?_
      refine lv_goto (tgt := 25) hx hb dX3_told_16 (by decide) ?_
      refine we_i hx hb hr hlocks hw ?_ dX3_told_25
      exact ⟨by unfold sToldR; rw [if_neg (fun h => c12 (lt7_6 h.2))], ⟨O, an, wy, pla, hokO, hMz⟩, fun j hj => w_fr hE2 (by omega)⟩

set_option maxHeartbeats 4000000 in
set_option maxRecDepth 100000 in
theorem kX3_row (l : Launch) (dC : Nat → ClassId) (dI : Nat → Nat → Nat) (q : ClassId × ClassId × ClassId × ClassId) (ad : Nat → Nat) (en : Nat → va_E) (n sz : Nat) (hn58 : 58 ≤ n) (th : Int32) (A : Ast) (pl : Nat → Pst) (cs : Nat → Int32) (hok : Aok A) (hpok : ∀ i, i < 10 → Pok (pl i)) (hM0 : ModAt q ad en th A pl cs) (i : Int32) :
    Met l yX3_row wsX3_row ({ frames := 0, cells := 0, slots := 0, locals := 0 }) (wPc (dC, dI) vwCl (wT q) ad en n sz [.ref (ad 42), .int i]) (va_Ql (fun (r : Int64) (en' : Nat → va_E) => r = sRowR i A ∧ ModAt q ad en' (sRowT i A) A pl cs ∧ ∀ j, (j < 42 ∨ 58 ≤ j) → en' j = en j) (wB (dC, dI) vwCl (wT q) ad n (wA ad n sz)) (wA ad n sz)) 0 0 (wA ad n sz) := by
  refine Met.ofW (cc := cX3_row) (maxL := 2) (ret := (some .long)) (by decide) rfl ?_
  intro p e s m args below meth c s₁ B hml hv
  obtain ⟨rfl, hsz, hP, hK, hD0, hE0⟩ := hv
  have hx := B.exec
  have hb := B.bytes
  have hr := B.returns
  have hts := atoms_spec (ws := wsX3_row) B.pre
  have hown : s.vm.findClass RX3 = some m.cls := findClass_of_methodNamed B.named
  have hlocks := B.notSynchronized
  have iRX3 : ∀ w ∈ u_ws RX3 TX3 21, w ∈ wsX3_row := by decide +kernel
  subst hsz
  have hw := wk_of hP hK hD0 hE0
  generalize wA ad n s.heap.size = AA at hw ⊢
  have hl := lv_entry ([.ref (ad 42), .int i]) (n := 2) (Nat.le_of_ble_eq_true rfl)
  rw [lg_entry_eq]
  generalize (lg_sl ([.ref (ad 42), .int i]) ++ List.replicate (2 - (lg_sl ([.ref (ad 42), .int i])).length) Slot.unset).toArray = ls at hl ⊢
  have hl : lv_has ls 2 [(0, .ref (ad 42)), (1, .int i)] := hl
  obtain ⟨O, an, wy, pla, hokO, hM⟩ := hM0
  have hcn := hok.2
  obtain ⟨ot1, ⟨hFt1, mFt1, tFt1, rFt1, a1t1, a2t1, a3t1, a4t1, hRt1⟩, ⟨oht1, omt1, ott1, orrt1, b1t1, b2t1, b3t1, b4t1, hOt1⟩, ⟨wFt1, sFt1, kFt1, aFt1, fFt1, xFt1, c1t1, c2t1, c3t1, c4t1, c5t1, c6t1, hPlt1⟩, ⟨gFt1, e1t1, hTt1⟩⟩ := id hM
  refine lv_aload_n hx hb dX3_row_0 rfl (lv_at hl 0 rfl) ?_
  refine lv_iconst (v := 0) hx hb dX3_row_1 (by decide) ?_
  refine wr_put (ci := 4) (v := .int 0) (ty := .int) (C := RX3) (T := TX3) (N := 21) hx hb hts iRX3 tyX3 tyX3_ok nmX3 hown hw 42 (by omega) ot1 rfl 0 (by decide) (hts (.fieldLink RX3 57 "LibraryDeskModel" "thrown" "I") (by decide +kernel)) (fun _ h9 => h9) rfl (by decide +kernel) rfl rfl (Nat.le_of_ble_eq_true rfl) dX3_row_2 (fun en3 H locs hE2 hw => ?_)
  have he4 : en3 42 = .inr (4, [.int 0, .ref (ad 43), .ref (ad 44), .ref (ad 45), .ref (ad 46), .int (nI (aCn A)), .ref (ad 47), .ref (ad 48), .ref (ad 49), .ref (ad 50), .int (nI (aCn O)), .ref (ad 51), .ref (ad 52), .ref (ad 53), .ref (ad 54), .ref (ad 55), .ref (ad 56), .ref (ad 57), .long an, .int wy, .int pla]) := w_self hE2
  have he5 : en3 43 = .inl (q.2.2.1, 328, .inl hFt1) := w_ne hE2 (by omega) a1t1
  have he6 : en3 44 = .inl (q.1, 8, .inl mFt1) := w_ne hE2 (by omega) a2t1
  have he7 : en3 45 = .inl (q.2.1, 8, .inr (.inl tFt1)) := w_ne hE2 (by omega) a3t1
  have he8 : en3 46 = .inl (q.2.1, 20, .inr (.inl rFt1)) := w_ne hE2 (by omega) a4t1
  have he9 : en3 47 = .inl (q.2.2.1, 328, .inl oht1) := w_ne hE2 (by omega) b1t1
  have he10 : en3 48 = .inl (q.1, 8, .inl omt1) := w_ne hE2 (by omega) b2t1
  have he11 : en3 49 = .inl (q.2.1, 8, .inr (.inl ott1)) := w_ne hE2 (by omega) b3t1
  have he12 : en3 50 = .inl (q.2.1, 20, .inr (.inl orrt1)) := w_ne hE2 (by omega) b4t1
  have he13 : en3 51 = .inl (q.1, 10, .inl wFt1) := w_ne hE2 (by omega) c1t1
  have he14 : en3 52 = .inl (q.1, 60, .inl sFt1) := w_ne hE2 (by omega) c2t1
  have he15 : en3 53 = .inl (q.1, 60, .inl kFt1) := w_ne hE2 (by omega) c3t1
  have he16 : en3 54 = .inl (q.1, 10, .inl aFt1) := w_ne hE2 (by omega) c4t1
  have he17 : en3 55 = .inl (q.1, 10, .inl fFt1) := w_ne hE2 (by omega) c5t1
  have he18 : en3 56 = .inl (q.1, 10, .inl xFt1) := w_ne hE2 (by omega) c6t1
  have he19 : en3 57 = .inl (q.1, 7, .inl gFt1) := w_ne hE2 (by omega) e1t1
  have hMz : ModC q ad en3 0 A O pl cs an wy pla := ⟨he4, ⟨_, _, _, _, he5, he6, he7, he8, hRt1⟩, ⟨_, _, _, _, he9, he10, he11, he12, hOt1⟩, ⟨_, _, _, _, _, _, he13, he14, he15, he16, he17, he18, hPlt1⟩, ⟨_, he19, hTt1⟩⟩
  obtain ⟨ot20, ⟨hFt20, mFt20, tFt20, rFt20, a1t20, a2t20, a3t20, a4t20, hRt20⟩, ⟨oht20, omt20, ott20, orrt20, b1t20, b2t20, b3t20, b4t20, hOt20⟩, ⟨wFt20, sFt20, kFt20, aFt20, fFt20, xFt20, c1t20, c2t20, c3t20, c4t20, c5t20, c6t20, hPlt20⟩, ⟨gFt20, e1t20, hTt20⟩⟩ := id hMz
  refine lv_iload_n hx hb dX3_row_5 rfl (lv_at hl 1 rfl) ?_
  refine lv_if_lt (tgt := 17) hx hb dX3_row_6 (by decide) (fun c6 => ?_) (fun c6 => ?_)
  · refine lv_aload_n hx hb dX3_row_17 rfl (lv_at hl 0 rfl) ?_
    refine lv_iconst (v := 1) hx hb dX3_row_18 (by decide) ?_
    refine wr_put (ci := 4) (v := .int 1) (ty := .int) (C := RX3) (T := TX3) (N := 21) hx hb hts iRX3 tyX3 tyX3_ok nmX3 hown hw 42 (by omega) ot20 rfl 0 (by decide) (hts (.fieldLink RX3 57 "LibraryDeskModel" "thrown" "I") (by decide +kernel)) (fun _ h9 => h9) rfl (by decide +kernel) rfl rfl (Nat.le_of_ble_eq_true rfl) dX3_row_19 (fun en22 H locs hE21 hw => ?_)
    have he23 : en22 42 = .inr (4, [.int 1, .ref (ad 43), .ref (ad 44), .ref (ad 45), .ref (ad 46), .int (nI (aCn A)), .ref (ad 47), .ref (ad 48), .ref (ad 49), .ref (ad 50), .int (nI (aCn O)), .ref (ad 51), .ref (ad 52), .ref (ad 53), .ref (ad 54), .ref (ad 55), .ref (ad 56), .ref (ad 57), .long an, .int wy, .int pla]) := w_self hE21
    have he24 : en22 43 = .inl (q.2.2.1, 328, .inl hFt20) := w_ne hE21 (by omega) a1t20
    have he25 : en22 44 = .inl (q.1, 8, .inl mFt20) := w_ne hE21 (by omega) a2t20
    have he26 : en22 45 = .inl (q.2.1, 8, .inr (.inl tFt20)) := w_ne hE21 (by omega) a3t20
    have he27 : en22 46 = .inl (q.2.1, 20, .inr (.inl rFt20)) := w_ne hE21 (by omega) a4t20
    have he28 : en22 47 = .inl (q.2.2.1, 328, .inl oht20) := w_ne hE21 (by omega) b1t20
    have he29 : en22 48 = .inl (q.1, 8, .inl omt20) := w_ne hE21 (by omega) b2t20
    have he30 : en22 49 = .inl (q.2.1, 8, .inr (.inl ott20)) := w_ne hE21 (by omega) b3t20
    have he31 : en22 50 = .inl (q.2.1, 20, .inr (.inl orrt20)) := w_ne hE21 (by omega) b4t20
    have he32 : en22 51 = .inl (q.1, 10, .inl wFt20) := w_ne hE21 (by omega) c1t20
    have he33 : en22 52 = .inl (q.1, 60, .inl sFt20) := w_ne hE21 (by omega) c2t20
    have he34 : en22 53 = .inl (q.1, 60, .inl kFt20) := w_ne hE21 (by omega) c3t20
    have he35 : en22 54 = .inl (q.1, 10, .inl aFt20) := w_ne hE21 (by omega) c4t20
    have he36 : en22 55 = .inl (q.1, 10, .inl fFt20) := w_ne hE21 (by omega) c5t20
    have he37 : en22 56 = .inl (q.1, 10, .inl xFt20) := w_ne hE21 (by omega) c6t20
    have he38 : en22 57 = .inl (q.1, 7, .inl gFt20) := w_ne hE21 (by omega) e1t20
    refine lv_lconst (v := 0) hx hb dX3_row_22 (by decide) ?_
    refine we_l hx hb hr hlocks hw ?_ dX3_row_23
    have hno : ¬ (0 ≤ i ∧ i < nI (aCn A)) := fun h => absurd c6 (Int32.not_lt.mpr h.1)
    exact ⟨by unfold sRowR; rw [if_neg hno], by unfold sRowT; rw [if_neg hno]; exact ⟨O, _, _, _, hokO, ⟨he23, ⟨_, _, _, _, he24, he25, he26, he27, hRt20⟩, ⟨_, _, _, _, he28, he29, he30, he31, hOt20⟩, ⟨_, _, _, _, _, _, he32, he33, he34, he35, he36, he37, hPlt20⟩, ⟨_, he38, hTt20⟩⟩⟩, fun j hj => (w_fr hE21 (by omega)).trans (w_fr hE2 (by omega))⟩
  · refine lv_iload_n hx hb dX3_row_9 rfl (lv_at hl 1 rfl) ?_
    refine lv_aload_n hx hb dX3_row_10 rfl (lv_at hl 0 rfl) ?_
    refine wr_get (ci := 4) (C := RX3) (T := TX3) (N := 21) hx hb hts iRX3 hown hw 42 (by omega) ot20 rfl 5 (by decide) (hts (.fieldLink RX3 61 "LibraryDeskModel" "size" "I") (by decide +kernel)) (fun _ h9 => h9) rfl dX3_row_11 ?_
    refine lv_icmp_lt (tgt := 24) hx hb dX3_row_14 (by decide) (fun c14 => ?_) (fun c14 => ?_)
    · have hin : 0 ≤ i ∧ i < nI (aCn A) := ⟨Int32.not_lt.mp c6, c14⟩
      obtain ⟨k, hk, ei⟩ : ∃ k, k < aCn A ∧ i = nI k := (kd_cases i (by omega)).resolve_right (fun h => h hin)
      subst ei
      refine lv_aload_n hx hb dX3_row_24 rfl (lv_at hl 0 rfl) ?_
      refine wr_get (ci := 4) (C := RX3) (T := TX3) (N := 21) hx hb hts iRX3 hown hw 42 (by omega) ot20 rfl 4 (by decide) (hts (.fieldLink RX3 21 "LibraryDeskModel" "row" "[J") (by decide +kernel)) (fun _ h9 => h9) rfl dX3_row_25 ?_
      refine lv_iload_n hx hb dX3_row_28 rfl (lv_at hl 1 rfl) ?_
      refine wr_lald (v := aRw A k) hx hb hw 46 (by omega) 1 a4t20 rfl (vp_in_nI (by omega) (by decide)) (by rw [(nI_clamp (by omega))]; exact hRt20.2.2 k hk) dX3_row_29 ?_
      refine we_l hx hb hr hlocks hw ?_ dX3_row_30
      exact ⟨by unfold sRowR; rw [if_pos hin, nI_clamp (by omega)], by unfold sRowT; rw [if_pos hin]; exact ⟨O, an, wy, pla, hokO, hMz⟩, fun j hj => w_fr hE2 (by omega)⟩
    · refine lv_aload_n hx hb dX3_row_17 rfl (lv_at hl 0 rfl) ?_
      refine lv_iconst (v := 1) hx hb dX3_row_18 (by decide) ?_
      refine wr_put (ci := 4) (v := .int 1) (ty := .int) (C := RX3) (T := TX3) (N := 21) hx hb hts iRX3 tyX3 tyX3_ok nmX3 hown hw 42 (by omega) ot20 rfl 0 (by decide) (hts (.fieldLink RX3 57 "LibraryDeskModel" "thrown" "I") (by decide +kernel)) (fun _ h9 => h9) rfl (by decide +kernel) rfl rfl (Nat.le_of_ble_eq_true rfl) dX3_row_19 (fun en40 H locs hE39 hw => ?_)
      have he41 : en40 42 = .inr (4, [.int 1, .ref (ad 43), .ref (ad 44), .ref (ad 45), .ref (ad 46), .int (nI (aCn A)), .ref (ad 47), .ref (ad 48), .ref (ad 49), .ref (ad 50), .int (nI (aCn O)), .ref (ad 51), .ref (ad 52), .ref (ad 53), .ref (ad 54), .ref (ad 55), .ref (ad 56), .ref (ad 57), .long an, .int wy, .int pla]) := w_self hE39
      have he42 : en40 43 = .inl (q.2.2.1, 328, .inl hFt20) := w_ne hE39 (by omega) a1t20
      have he43 : en40 44 = .inl (q.1, 8, .inl mFt20) := w_ne hE39 (by omega) a2t20
      have he44 : en40 45 = .inl (q.2.1, 8, .inr (.inl tFt20)) := w_ne hE39 (by omega) a3t20
      have he45 : en40 46 = .inl (q.2.1, 20, .inr (.inl rFt20)) := w_ne hE39 (by omega) a4t20
      have he46 : en40 47 = .inl (q.2.2.1, 328, .inl oht20) := w_ne hE39 (by omega) b1t20
      have he47 : en40 48 = .inl (q.1, 8, .inl omt20) := w_ne hE39 (by omega) b2t20
      have he48 : en40 49 = .inl (q.2.1, 8, .inr (.inl ott20)) := w_ne hE39 (by omega) b3t20
      have he49 : en40 50 = .inl (q.2.1, 20, .inr (.inl orrt20)) := w_ne hE39 (by omega) b4t20
      have he50 : en40 51 = .inl (q.1, 10, .inl wFt20) := w_ne hE39 (by omega) c1t20
      have he51 : en40 52 = .inl (q.1, 60, .inl sFt20) := w_ne hE39 (by omega) c2t20
      have he52 : en40 53 = .inl (q.1, 60, .inl kFt20) := w_ne hE39 (by omega) c3t20
      have he53 : en40 54 = .inl (q.1, 10, .inl aFt20) := w_ne hE39 (by omega) c4t20
      have he54 : en40 55 = .inl (q.1, 10, .inl fFt20) := w_ne hE39 (by omega) c5t20
      have he55 : en40 56 = .inl (q.1, 10, .inl xFt20) := w_ne hE39 (by omega) c6t20
      have he56 : en40 57 = .inl (q.1, 7, .inl gFt20) := w_ne hE39 (by omega) e1t20
      refine lv_lconst (v := 0) hx hb dX3_row_22 (by decide) ?_
      refine we_l hx hb hr hlocks hw ?_ dX3_row_23
      have hno : ¬ (0 ≤ i ∧ i < nI (aCn A)) := fun h => c14 h.2
      exact ⟨by unfold sRowR; rw [if_neg hno], by unfold sRowT; rw [if_neg hno]; exact ⟨O, _, _, _, hokO, ⟨he41, ⟨_, _, _, _, he42, he43, he44, he45, hRt20⟩, ⟨_, _, _, _, he46, he47, he48, he49, hOt20⟩, ⟨_, _, _, _, _, _, he50, he51, he52, he53, he54, he55, hPlt20⟩, ⟨_, he56, hTt20⟩⟩⟩, fun j hj => (w_fr hE39 (by omega)).trans (w_fr hE2 (by omega))⟩

set_option maxHeartbeats 4000000 in
set_option maxRecDepth 100000 in
theorem kX3_call (l : Launch) (dC : Nat → ClassId) (dI : Nat → Nat → Nat) (q : ClassId × ClassId × ClassId × ClassId) (ad : Nat → Nat) (en : Nat → va_E) (n sz : Nat) (hn58 : 58 ≤ n) (th : Int32) (A : Ast) (pl : Nat → Pst) (cs : Nat → Int32) (hok : Aok A) (hpok : ∀ i, i < 10 → Pok (pl i)) (hM0 : ModAt q ad en th A pl cs) (cv z : Int32) (a : Int64) :
    Met l yX3_call wsX3_call ({ frames := 5, cells := 0, slots := 0, locals := 115 }) (wPc (dC, dI) vwCl (wT q) ad en n sz [.ref (ad 42), .int cv, .int z, .long a]) (va_Ql (fun (r : Int64) (en' : Nat → va_E) => r = sCallR cv z a A pl ∧ ModAt q ad en' 0 (sCallA cv z a A pl) (sCallP cv z a A pl) (sCallC cv z a A pl cs) ∧ ∀ j, (j < 42 ∨ 58 ≤ j) → en' j = en j) (wB (dC, dI) vwCl (wT q) ad n (wA ad n sz)) (wA ad n sz)) 0 0 (wA ad n sz) := by
  refine Met.ofW (cc := cX3_call) (maxL := 5) (ret := (some .long)) (by decide) rfl ?_
  intro p e s m args below meth c s₁ B hml hv
  obtain ⟨rfl, hsz, hP, hK, hD0, hE0⟩ := hv
  have hx := B.exec
  have hb := B.bytes
  have hr := B.returns
  have hts := atoms_spec (ws := wsX3_call) B.pre
  have hown : s.vm.findClass RX3 = some m.cls := findClass_of_methodNamed B.named
  have hlocks := B.notSynchronized
  have iRX3 : ∀ w ∈ u_ws RX3 TX3 21, w ∈ wsX3_call := by decide +kernel
  subst hsz
  have hw := wk_of hP hK hD0 hE0
  generalize wA ad n s.heap.size = AA at hw ⊢
  have hl := lv_entry ([.ref (ad 42), .int cv, .int z, .long a]) (n := 5) (Nat.le_of_ble_eq_true rfl)
  rw [lg_entry_eq]
  generalize (lg_sl ([.ref (ad 42), .int cv, .int z, .long a]) ++ List.replicate (5 - (lg_sl ([.ref (ad 42), .int cv, .int z, .long a])).length) Slot.unset).toArray = ls at hl ⊢
  have hl : lv_has ls 5 [(0, .ref (ad 42)), (1, .int cv), (2, .int z), (3, .long a)] := hl
  obtain ⟨O, an, wy, pla, hokO, hM⟩ := hM0
  have hcn := hok.2
  obtain ⟨ot1, ⟨hFt1, mFt1, tFt1, rFt1, a1t1, a2t1, a3t1, a4t1, hRt1⟩, ⟨oht1, omt1, ott1, orrt1, b1t1, b2t1, b3t1, b4t1, hOt1⟩, ⟨wFt1, sFt1, kFt1, aFt1, fFt1, xFt1, c1t1, c2t1, c3t1, c4t1, c5t1, c6t1, hPlt1⟩, ⟨gFt1, e1t1, hTt1⟩⟩ := id hM
  refine lv_aload_n hx hb dX3_call_0 rfl (lv_at hl 0 rfl) ?_
  refine lv_iconst (v := 0) hx hb dX3_call_1 (by decide) ?_
  refine wr_put (ci := 4) (v := .int 0) (ty := .int) (C := RX3) (T := TX3) (N := 21) hx hb hts iRX3 tyX3 tyX3_ok nmX3 hown hw 42 (by omega) ot1 rfl 0 (by decide) (hts (.fieldLink RX3 57 "LibraryDeskModel" "thrown" "I") (by decide +kernel)) (fun _ h9 => h9) rfl (by decide +kernel) rfl rfl (Nat.le_of_ble_eq_true rfl) dX3_call_2 (fun en3 H locs hE2 hw => ?_)
  have he4 : en3 42 = .inr (4, [.int 0, .ref (ad 43), .ref (ad 44), .ref (ad 45), .ref (ad 46), .int (nI (aCn A)), .ref (ad 47), .ref (ad 48), .ref (ad 49), .ref (ad 50), .int (nI (aCn O)), .ref (ad 51), .ref (ad 52), .ref (ad 53), .ref (ad 54), .ref (ad 55), .ref (ad 56), .ref (ad 57), .long an, .int wy, .int pla]) := w_self hE2
  have he5 : en3 43 = .inl (q.2.2.1, 328, .inl hFt1) := w_ne hE2 (by omega) a1t1
  have he6 : en3 44 = .inl (q.1, 8, .inl mFt1) := w_ne hE2 (by omega) a2t1
  have he7 : en3 45 = .inl (q.2.1, 8, .inr (.inl tFt1)) := w_ne hE2 (by omega) a3t1
  have he8 : en3 46 = .inl (q.2.1, 20, .inr (.inl rFt1)) := w_ne hE2 (by omega) a4t1
  have he9 : en3 47 = .inl (q.2.2.1, 328, .inl oht1) := w_ne hE2 (by omega) b1t1
  have he10 : en3 48 = .inl (q.1, 8, .inl omt1) := w_ne hE2 (by omega) b2t1
  have he11 : en3 49 = .inl (q.2.1, 8, .inr (.inl ott1)) := w_ne hE2 (by omega) b3t1
  have he12 : en3 50 = .inl (q.2.1, 20, .inr (.inl orrt1)) := w_ne hE2 (by omega) b4t1
  have he13 : en3 51 = .inl (q.1, 10, .inl wFt1) := w_ne hE2 (by omega) c1t1
  have he14 : en3 52 = .inl (q.1, 60, .inl sFt1) := w_ne hE2 (by omega) c2t1
  have he15 : en3 53 = .inl (q.1, 60, .inl kFt1) := w_ne hE2 (by omega) c3t1
  have he16 : en3 54 = .inl (q.1, 10, .inl aFt1) := w_ne hE2 (by omega) c4t1
  have he17 : en3 55 = .inl (q.1, 10, .inl fFt1) := w_ne hE2 (by omega) c5t1
  have he18 : en3 56 = .inl (q.1, 10, .inl xFt1) := w_ne hE2 (by omega) c6t1
  have he19 : en3 57 = .inl (q.1, 7, .inl gFt1) := w_ne hE2 (by omega) e1t1
  have hMz : ModC q ad en3 0 A O pl cs an wy pla := ⟨he4, ⟨_, _, _, _, he5, he6, he7, he8, hRt1⟩, ⟨_, _, _, _, he9, he10, he11, he12, hOt1⟩, ⟨_, _, _, _, _, _, he13, he14, he15, he16, he17, he18, hPlt1⟩, ⟨_, he19, hTt1⟩⟩
  obtain ⟨ot20, ⟨hFt20, mFt20, tFt20, rFt20, a1t20, a2t20, a3t20, a4t20, hRt20⟩, ⟨oht20, omt20, ott20, orrt20, b1t20, b2t20, b3t20, b4t20, hOt20⟩, ⟨wFt20, sFt20, kFt20, aFt20, fFt20, xFt20, c1t20, c2t20, c3t20, c4t20, c5t20, c6t20, hPlt20⟩, ⟨gFt20, e1t20, hTt20⟩⟩ := id hMz
  refine lv_aload_n hx hb dX3_call_5 rfl (lv_at hl 0 rfl) ?_
  refine lv_iload_n hx hb dX3_call_6 rfl (lv_at hl 1 rfl) ?_
  refine lv_iload_n hx hb dX3_call_7 rfl (lv_at hl 2 rfl) ?_
  refine wc_i hw (va_runV (As := [.int cv, .int z]) (rest := []) ⟨hx, hb, hml, hown, hts⟩ (kX3_may l dC dI q ad en3 n _ hn58 0 A O pl cs an wy pla hok hMz cv z) (cwV 2 hts gX3_call_X3_may rfl rfl rfl (by decide +kernel) ⟨Nat.le_of_ble_eq_true rfl, Nat.le_of_ble_eq_true rfl⟩) (wk_preV hw (by omega) ot20 rfl) rfl rfl hl.1 rfl (lv_room (Nat.le_of_ble_eq_true rfl)) dX3_call_8 ⟨Nat.le_refl _, Nat.le_refl _⟩) (fun r21 en23 H locs hp22 hw => ?_)
  obtain ⟨hr24, hn25⟩ := hp22
  rw [hn25] at hw
  clear hn25
  refine lv_if_ne (tgt := 28) hx hb dX3_call_11 (by decide) (fun c11 => ?_) (fun c11 => ?_)
  · have hnr := z01_t hr24 c11
    have hcv : okC cv := Decidable.of_not_not (fun h => hnr (Or.inl h))
    obtain ⟨c1, hc, ecv⟩ := okC_of hcv
    subst ecv
    refine lv_aload_n hx hb dX3_call_28 rfl (lv_at hl 0 rfl) ?_
    refine lv_iload_n hx hb dX3_call_29 rfl (lv_at hl 1 rfl) ?_
    refine lv_iload_n hx hb dX3_call_30 rfl (lv_at hl 2 rfl) ?_
    refine lv_lload_n hx hb dX3_call_31 rfl (lv_at hl 3 rfl) ?_
    refine wc_i hw (va_runV (As := [.int (nI c1), .int z, .long a]) (rest := []) ⟨hx, hb, hml, hown, hts⟩ (kX3_done l dC dI q ad en3 n _ hn58 0 A O pl cs an wy pla hok hMz hokO c1 hc (hpok c1 hc) z a) (cwV 3 hts gX3_call_X3_done rfl rfl rfl (by decide +kernel) ⟨Nat.le_of_ble_eq_true rfl, Nat.le_of_ble_eq_true rfl⟩) (wk_preV hw (by omega) ot20 rfl) rfl rfl hl.1 rfl (lv_room (Nat.le_of_ble_eq_true rfl)) dX3_call_32 ⟨Nat.le_refl _, Nat.le_refl _⟩) (fun r26 en28 H locs hp27 hw => ?_)
    obtain ⟨hr1, pla2, hM1, hpl2, hfr1⟩ := hp27
    obtain ⟨ot29, ⟨hFt29, mFt29, tFt29, rFt29, a1t29, a2t29, a3t29, a4t29, hRt29⟩, ⟨oht29, omt29, ott29, orrt29, b1t29, b2t29, b3t29, b4t29, hOt29⟩, ⟨wFt29, sFt29, kFt29, aFt29, fFt29, xFt29, c1t29, c2t29, c3t29, c4t29, c5t29, c6t29, hPlt29⟩, ⟨gFt29, e1t29, hTt29⟩⟩ := id hM1
    refine lv_if_eq (tgt := 53) hx hb dX3_call_35 (by decide) (fun c35 => ?_) (fun c35 => ?_)
    · have h0 : ¬ (tR (pl c1) z a A).1 = 0 := z01_f hr1 c35
      refine lv_aload_n hx hb dX3_call_53 rfl (lv_at hl 0 rfl) ?_
      refine wr_get (ci := 4) (C := RX3) (T := TX3) (N := 21) hx hb hts iRX3 hown hw 42 (by omega) ot29 rfl 17 (by decide) (hts (.fieldLink RX3 54 "LibraryDeskModel" "told" "[I") (by decide +kernel)) (fun _ h9 => h9) rfl dX3_call_54 ?_
      refine lv_iconst (v := 2) hx hb dX3_call_57 (by decide) ?_
      refine lv_dup2_11 hx hb dX3_call_58 rfl rfl ?_
      refine wr_iald (v := cs 2) hx hb hw 57 (by omega) 0 e1t29 rfl (vp_in_nI (n := 2) (by decide) (by decide)) (by rw [(show (2 : Int32).toNatClampNeg = 2 by decide)]; exact hTt29 2 (by decide)) dX3_call_59 ?_
      refine lv_iconst (v := 1) hx hb dX3_call_60 (by decide) ?_
      refine lv_iadd hx hb dX3_call_61 ?_
      refine lv_topi (fun x30 ex30 => ?_)
      have ex30n : x30 = cs 2 + 1 := ex30.trans (rfl)
      clear ex30
      subst ex30n
      refine wr_iast (j := 2) hx hb hw 57 (by omega) 0 e1t29 rfl (vp_in_nI (n := 2) (by decide) (by decide)) (show (2 : Int32).toNatClampNeg = 2 by decide) dX3_call_62 (fun en32 H locs hE31 hw => ?_)
      have he33 : en32 42 = .inr (4, [.int 0, .ref (ad 43), .ref (ad 44), .ref (ad 45), .ref (ad 46), .int (nI (aCn ((if (tR (pl c1) z a A).1 = 0 then (tR (pl c1) z a A).2.2.1 else A)))), .ref (ad 47), .ref (ad 48), .ref (ad 49), .ref (ad 50), .int (nI (aCn A)), .ref (ad 51), .ref (ad 52), .ref (ad 53), .ref (ad 54), .ref (ad 55), .ref (ad 56), .ref (ad 57), .long ((tR (pl c1) z a A).2.2.2), .int ((tR (pl c1) z a A).1), .int pla2]) := w_ne hE31 (by omega) ot29
      have he34 : en32 43 = .inl (q.2.2.1, 328, .inl hFt29) := w_ne hE31 (by omega) a1t29
      have he35 : en32 44 = .inl (q.1, 8, .inl mFt29) := w_ne hE31 (by omega) a2t29
      have he36 : en32 45 = .inl (q.2.1, 8, .inr (.inl tFt29)) := w_ne hE31 (by omega) a3t29
      have he37 : en32 46 = .inl (q.2.1, 20, .inr (.inl rFt29)) := w_ne hE31 (by omega) a4t29
      have he38 : en32 47 = .inl (q.2.2.1, 328, .inl oht29) := w_ne hE31 (by omega) b1t29
      have he39 : en32 48 = .inl (q.1, 8, .inl omt29) := w_ne hE31 (by omega) b2t29
      have he40 : en32 49 = .inl (q.2.1, 8, .inr (.inl ott29)) := w_ne hE31 (by omega) b3t29
      have he41 : en32 50 = .inl (q.2.1, 20, .inr (.inl orrt29)) := w_ne hE31 (by omega) b4t29
      have he42 : en32 51 = .inl (q.1, 10, .inl wFt29) := w_ne hE31 (by omega) c1t29
      have he43 : en32 52 = .inl (q.1, 60, .inl sFt29) := w_ne hE31 (by omega) c2t29
      have he44 : en32 53 = .inl (q.1, 60, .inl kFt29) := w_ne hE31 (by omega) c3t29
      have he45 : en32 54 = .inl (q.1, 10, .inl aFt29) := w_ne hE31 (by omega) c4t29
      have he46 : en32 55 = .inl (q.1, 10, .inl fFt29) := w_ne hE31 (by omega) c5t29
      have he47 : en32 56 = .inl (q.1, 10, .inl xFt29) := w_ne hE31 (by omega) c6t29
      have he48 : en32 57 = .inl (q.1, 7, .inl (upd gFt29 2 (cs 2 + 1))) := w_self hE31
      refine lv_aload_n hx hb dX3_call_63 rfl (lv_at hl 0 rfl) ?_
      refine wr_get (ci := 4) (C := RX3) (T := TX3) (N := 21) hx hb hts iRX3 hown hw 42 (by omega) he33 rfl 17 (by decide) (hts (.fieldLink RX3 54 "LibraryDeskModel" "told" "[I") (by decide +kernel)) (fun _ h9 => h9) rfl dX3_call_64 ?_
      refine lv_iconst (v := 3) hx hb dX3_call_67 (by decide) ?_
      refine lv_aload_n hx hb dX3_call_68 rfl (lv_at hl 0 rfl) ?_
      refine wr_get (ci := 4) (C := RX3) (T := TX3) (N := 21) hx hb hts iRX3 hown hw 42 (by omega) he33 rfl 19 (by decide) (hts (.fieldLink RX3 104 "LibraryDeskModel" "why" "I") (by decide +kernel)) (fun _ h9 => h9) rfl dX3_call_69 ?_
      refine wr_iast (j := 3) hx hb hw 57 (by omega) 0 he48 rfl (vp_in_nI (n := 3) (by decide) (by decide)) (show (3 : Int32).toNatClampNeg = 3 by decide) dX3_call_72 (fun en50 H locs hE49 hw => ?_)
      have he51 : en50 42 = .inr (4, [.int 0, .ref (ad 43), .ref (ad 44), .ref (ad 45), .ref (ad 46), .int (nI (aCn ((if (tR (pl c1) z a A).1 = 0 then (tR (pl c1) z a A).2.2.1 else A)))), .ref (ad 47), .ref (ad 48), .ref (ad 49), .ref (ad 50), .int (nI (aCn A)), .ref (ad 51), .ref (ad 52), .ref (ad 53), .ref (ad 54), .ref (ad 55), .ref (ad 56), .ref (ad 57), .long ((tR (pl c1) z a A).2.2.2), .int ((tR (pl c1) z a A).1), .int pla2]) := w_ne hE49 (by omega) he33
      have he52 : en50 43 = .inl (q.2.2.1, 328, .inl hFt29) := w_ne hE49 (by omega) he34
      have he53 : en50 44 = .inl (q.1, 8, .inl mFt29) := w_ne hE49 (by omega) he35
      have he54 : en50 45 = .inl (q.2.1, 8, .inr (.inl tFt29)) := w_ne hE49 (by omega) he36
      have he55 : en50 46 = .inl (q.2.1, 20, .inr (.inl rFt29)) := w_ne hE49 (by omega) he37
      have he56 : en50 47 = .inl (q.2.2.1, 328, .inl oht29) := w_ne hE49 (by omega) he38
      have he57 : en50 48 = .inl (q.1, 8, .inl omt29) := w_ne hE49 (by omega) he39
      have he58 : en50 49 = .inl (q.2.1, 8, .inr (.inl ott29)) := w_ne hE49 (by omega) he40
      have he59 : en50 50 = .inl (q.2.1, 20, .inr (.inl orrt29)) := w_ne hE49 (by omega) he41
      have he60 : en50 51 = .inl (q.1, 10, .inl wFt29) := w_ne hE49 (by omega) he42
      have he61 : en50 52 = .inl (q.1, 60, .inl sFt29) := w_ne hE49 (by omega) he43
      have he62 : en50 53 = .inl (q.1, 60, .inl kFt29) := w_ne hE49 (by omega) he44
      have he63 : en50 54 = .inl (q.1, 10, .inl aFt29) := w_ne hE49 (by omega) he45
      have he64 : en50 55 = .inl (q.1, 10, .inl fFt29) := w_ne hE49 (by omega) he46
      have he65 : en50 56 = .inl (q.1, 10, .inl xFt29) := w_ne hE49 (by omega) he47
      have he66 : en50 57 = .inl (q.1, 7, .inl (upd (upd gFt29 2 (cs 2 + 1)) 3 ((tR (pl c1) z a A).1))) := w_self hE49
      refine lv_aload_n hx hb dX3_call_73 rfl (lv_at hl 0 rfl) ?_
      refine wr_get (ci := 4) (C := RX3) (T := TX3) (N := 21) hx hb hts iRX3 hown hw 42 (by omega) he51 rfl 17 (by decide) (hts (.fieldLink RX3 54 "LibraryDeskModel" "told" "[I") (by decide +kernel)) (fun _ h9 => h9) rfl dX3_call_74 ?_
      refine lv_iconst (v := 4) hx hb dX3_call_77 (by decide) ?_
      refine lv_aload_n hx hb dX3_call_78 rfl (lv_at hl 0 rfl) ?_
      refine wr_get (ci := 4) (C := RX3) (T := TX3) (N := 21) hx hb hts iRX3 hown hw 42 (by omega) he51 rfl 20 (by decide) (hts (.fieldLink RX3 107 "LibraryDeskModel" "place" "I") (by decide +kernel)) (fun _ h9 => h9) rfl dX3_call_79 ?_
      refine wr_iast (j := 4) hx hb hw 57 (by omega) 0 he66 rfl (vp_in_nI (n := 4) (by decide) (by decide)) (show (4 : Int32).toNatClampNeg = 4 by decide) dX3_call_82 (fun en68 H locs hE67 hw => ?_)
      have he69 : en68 42 = .inr (4, [.int 0, .ref (ad 43), .ref (ad 44), .ref (ad 45), .ref (ad 46), .int (nI (aCn ((if (tR (pl c1) z a A).1 = 0 then (tR (pl c1) z a A).2.2.1 else A)))), .ref (ad 47), .ref (ad 48), .ref (ad 49), .ref (ad 50), .int (nI (aCn A)), .ref (ad 51), .ref (ad 52), .ref (ad 53), .ref (ad 54), .ref (ad 55), .ref (ad 56), .ref (ad 57), .long ((tR (pl c1) z a A).2.2.2), .int ((tR (pl c1) z a A).1), .int pla2]) := w_ne hE67 (by omega) he51
      have he70 : en68 43 = .inl (q.2.2.1, 328, .inl hFt29) := w_ne hE67 (by omega) he52
      have he71 : en68 44 = .inl (q.1, 8, .inl mFt29) := w_ne hE67 (by omega) he53
      have he72 : en68 45 = .inl (q.2.1, 8, .inr (.inl tFt29)) := w_ne hE67 (by omega) he54
      have he73 : en68 46 = .inl (q.2.1, 20, .inr (.inl rFt29)) := w_ne hE67 (by omega) he55
      have he74 : en68 47 = .inl (q.2.2.1, 328, .inl oht29) := w_ne hE67 (by omega) he56
      have he75 : en68 48 = .inl (q.1, 8, .inl omt29) := w_ne hE67 (by omega) he57
      have he76 : en68 49 = .inl (q.2.1, 8, .inr (.inl ott29)) := w_ne hE67 (by omega) he58
      have he77 : en68 50 = .inl (q.2.1, 20, .inr (.inl orrt29)) := w_ne hE67 (by omega) he59
      have he78 : en68 51 = .inl (q.1, 10, .inl wFt29) := w_ne hE67 (by omega) he60
      have he79 : en68 52 = .inl (q.1, 60, .inl sFt29) := w_ne hE67 (by omega) he61
      have he80 : en68 53 = .inl (q.1, 60, .inl kFt29) := w_ne hE67 (by omega) he62
      have he81 : en68 54 = .inl (q.1, 10, .inl aFt29) := w_ne hE67 (by omega) he63
      have he82 : en68 55 = .inl (q.1, 10, .inl fFt29) := w_ne hE67 (by omega) he64
      have he83 : en68 56 = .inl (q.1, 10, .inl xFt29) := w_ne hE67 (by omega) he65
      have he84 : en68 57 = .inl (q.1, 7, .inl (upd (upd (upd gFt29 2 (cs 2 + 1)) 3 ((tR (pl c1) z a A).1)) 4 pla2)) := w_self hE67
      refine lv_aload_n hx hb dX3_call_83 rfl (lv_at hl 0 rfl) ?_
      refine wr_get (ci := 4) (C := RX3) (T := TX3) (N := 21) hx hb hts iRX3 hown hw 42 (by omega) he69 rfl 17 (by decide) (hts (.fieldLink RX3 54 "LibraryDeskModel" "told" "[I") (by decide +kernel)) (fun _ h9 => h9) rfl dX3_call_84 ?_
      refine lv_iconst (v := 5) hx hb dX3_call_87 (by decide) ?_
      refine lv_iload_n hx hb dX3_call_88 rfl (lv_at hl 1 rfl) ?_
      refine wr_iast (j := 5) hx hb hw 57 (by omega) 0 he84 rfl (vp_in_nI (n := 5) (by decide) (by decide)) (show (5 : Int32).toNatClampNeg = 5 by decide) dX3_call_89 (fun en86 H locs hE85 hw => ?_)
      have he87 : en86 42 = .inr (4, [.int 0, .ref (ad 43), .ref (ad 44), .ref (ad 45), .ref (ad 46), .int (nI (aCn ((if (tR (pl c1) z a A).1 = 0 then (tR (pl c1) z a A).2.2.1 else A)))), .ref (ad 47), .ref (ad 48), .ref (ad 49), .ref (ad 50), .int (nI (aCn A)), .ref (ad 51), .ref (ad 52), .ref (ad 53), .ref (ad 54), .ref (ad 55), .ref (ad 56), .ref (ad 57), .long ((tR (pl c1) z a A).2.2.2), .int ((tR (pl c1) z a A).1), .int pla2]) := w_ne hE85 (by omega) he69
      have he88 : en86 43 = .inl (q.2.2.1, 328, .inl hFt29) := w_ne hE85 (by omega) he70
      have he89 : en86 44 = .inl (q.1, 8, .inl mFt29) := w_ne hE85 (by omega) he71
      have he90 : en86 45 = .inl (q.2.1, 8, .inr (.inl tFt29)) := w_ne hE85 (by omega) he72
      have he91 : en86 46 = .inl (q.2.1, 20, .inr (.inl rFt29)) := w_ne hE85 (by omega) he73
      have he92 : en86 47 = .inl (q.2.2.1, 328, .inl oht29) := w_ne hE85 (by omega) he74
      have he93 : en86 48 = .inl (q.1, 8, .inl omt29) := w_ne hE85 (by omega) he75
      have he94 : en86 49 = .inl (q.2.1, 8, .inr (.inl ott29)) := w_ne hE85 (by omega) he76
      have he95 : en86 50 = .inl (q.2.1, 20, .inr (.inl orrt29)) := w_ne hE85 (by omega) he77
      have he96 : en86 51 = .inl (q.1, 10, .inl wFt29) := w_ne hE85 (by omega) he78
      have he97 : en86 52 = .inl (q.1, 60, .inl sFt29) := w_ne hE85 (by omega) he79
      have he98 : en86 53 = .inl (q.1, 60, .inl kFt29) := w_ne hE85 (by omega) he80
      have he99 : en86 54 = .inl (q.1, 10, .inl aFt29) := w_ne hE85 (by omega) he81
      have he100 : en86 55 = .inl (q.1, 10, .inl fFt29) := w_ne hE85 (by omega) he82
      have he101 : en86 56 = .inl (q.1, 10, .inl xFt29) := w_ne hE85 (by omega) he83
      have he102 : en86 57 = .inl (q.1, 7, .inl (upd (upd (upd (upd gFt29 2 (cs 2 + 1)) 3 ((tR (pl c1) z a A).1)) 4 pla2) 5 (nI c1))) := w_self hE85
      refine lv_aload_n hx hb dX3_call_90 rfl (lv_at hl 0 rfl) ?_
      refine wr_get (ci := 4) (C := RX3) (T := TX3) (N := 21) hx hb hts iRX3 hown hw 42 (by omega) he87 rfl 17 (by decide) (hts (.fieldLink RX3 54 "LibraryDeskModel" "told" "[I") (by decide +kernel)) (fun _ h9 => h9) rfl dX3_call_91 ?_
      refine lv_bipush (v := 6) hx hb dX3_call_94 (by decide) ?_
      refine lv_iload_n hx hb dX3_call_96 rfl (lv_at hl 2 rfl) ?_
      refine wr_iast (j := 6) hx hb hw 57 (by omega) 0 he102 rfl (vp_in_nI (n := 6) (by decide) (by decide)) (show (6 : Int32).toNatClampNeg = 6 by decide) dX3_call_97 (fun en104 H locs hE103 hw => ?_)
      have he105 : en104 42 = .inr (4, [.int 0, .ref (ad 43), .ref (ad 44), .ref (ad 45), .ref (ad 46), .int (nI (aCn ((if (tR (pl c1) z a A).1 = 0 then (tR (pl c1) z a A).2.2.1 else A)))), .ref (ad 47), .ref (ad 48), .ref (ad 49), .ref (ad 50), .int (nI (aCn A)), .ref (ad 51), .ref (ad 52), .ref (ad 53), .ref (ad 54), .ref (ad 55), .ref (ad 56), .ref (ad 57), .long ((tR (pl c1) z a A).2.2.2), .int ((tR (pl c1) z a A).1), .int pla2]) := w_ne hE103 (by omega) he87
      have he106 : en104 43 = .inl (q.2.2.1, 328, .inl hFt29) := w_ne hE103 (by omega) he88
      have he107 : en104 44 = .inl (q.1, 8, .inl mFt29) := w_ne hE103 (by omega) he89
      have he108 : en104 45 = .inl (q.2.1, 8, .inr (.inl tFt29)) := w_ne hE103 (by omega) he90
      have he109 : en104 46 = .inl (q.2.1, 20, .inr (.inl rFt29)) := w_ne hE103 (by omega) he91
      have he110 : en104 47 = .inl (q.2.2.1, 328, .inl oht29) := w_ne hE103 (by omega) he92
      have he111 : en104 48 = .inl (q.1, 8, .inl omt29) := w_ne hE103 (by omega) he93
      have he112 : en104 49 = .inl (q.2.1, 8, .inr (.inl ott29)) := w_ne hE103 (by omega) he94
      have he113 : en104 50 = .inl (q.2.1, 20, .inr (.inl orrt29)) := w_ne hE103 (by omega) he95
      have he114 : en104 51 = .inl (q.1, 10, .inl wFt29) := w_ne hE103 (by omega) he96
      have he115 : en104 52 = .inl (q.1, 60, .inl sFt29) := w_ne hE103 (by omega) he97
      have he116 : en104 53 = .inl (q.1, 60, .inl kFt29) := w_ne hE103 (by omega) he98
      have he117 : en104 54 = .inl (q.1, 10, .inl aFt29) := w_ne hE103 (by omega) he99
      have he118 : en104 55 = .inl (q.1, 10, .inl fFt29) := w_ne hE103 (by omega) he100
      have he119 : en104 56 = .inl (q.1, 10, .inl xFt29) := w_ne hE103 (by omega) he101
      have he120 : en104 57 = .inl (q.1, 7, .inl (upd (upd (upd (upd (upd gFt29 2 (cs 2 + 1)) 3 ((tR (pl c1) z a A).1)) 4 pla2) 5 (nI c1)) 6 z)) := w_self hE103
      refine lv_aload_n hx hb dX3_call_98 rfl (lv_at hl 0 rfl) ?_
      refine wr_get (ci := 4) (C := RX3) (T := TX3) (N := 21) hx hb hts iRX3 hown hw 42 (by omega) he105 rfl 15 (by decide) (hts (.fieldLink RX3 48 "LibraryDeskModel" "failsAt" "[I") (by decide +kernel)) (fun _ h9 => h9) rfl dX3_call_99 ?_
      refine lv_iload_n hx hb dX3_call_102 rfl (lv_at hl 1 rfl) ?_
      refine lv_aload_n hx hb dX3_call_103 rfl (lv_at hl 0 rfl) ?_
      refine wr_get (ci := 4) (C := RX3) (T := TX3) (N := 21) hx hb hts iRX3 hown hw 42 (by omega) he105 rfl 19 (by decide) (hts (.fieldLink RX3 104 "LibraryDeskModel" "why" "I") (by decide +kernel)) (fun _ h9 => h9) rfl dX3_call_104 ?_
      refine lv_bipush (v := 6) hx hb dX3_call_107 (by decide) ?_
      refine lv_icmp_ge (tgt := 116) hx hb dX3_call_109 (by decide) (fun c109 => ?_) (fun c109 => ?_)
      · skip
        refine lv_aload_n hx hb dX3_call_116 rfl (lv_at hl 0 rfl) ?_
        refine wr_get (ci := 4) (C := RX3) (T := TX3) (N := 21) hx hb hts iRX3 hown hw 42 (by omega) he105 rfl 15 (by decide) (hts (.fieldLink RX3 48 "LibraryDeskModel" "failsAt" "[I") (by decide +kernel)) (fun _ h9 => h9) rfl dX3_call_117 ?_
        refine lv_iload_n hx hb dX3_call_120 rfl (lv_at hl 1 rfl) ?_
        refine wr_iald (v := (pl c1).2.2.2.2.1) hx hb hw 55 (by omega) 0 he118 rfl (vp_in_nI (by omega) (by decide)) (by rw [(nI_clamp (by omega))]; exact (hPlt29 c1 hc).2.2.1) dX3_call_121 ?_
        refine wr_iast (j := c1) hx hb hw 55 (by omega) 0 he118 rfl (vp_in_nI (by omega) (by decide)) (nI_clamp (by omega)) dX3_call_122 (fun en122 H locs hE121 hw => ?_)
        have he123 : en122 42 = .inr (4, [.int 0, .ref (ad 43), .ref (ad 44), .ref (ad 45), .ref (ad 46), .int (nI (aCn ((if (tR (pl c1) z a A).1 = 0 then (tR (pl c1) z a A).2.2.1 else A)))), .ref (ad 47), .ref (ad 48), .ref (ad 49), .ref (ad 50), .int (nI (aCn A)), .ref (ad 51), .ref (ad 52), .ref (ad 53), .ref (ad 54), .ref (ad 55), .ref (ad 56), .ref (ad 57), .long ((tR (pl c1) z a A).2.2.2), .int ((tR (pl c1) z a A).1), .int pla2]) := w_ne hE121 (by omega) he105
        have he124 : en122 43 = .inl (q.2.2.1, 328, .inl hFt29) := w_ne hE121 (by omega) he106
        have he125 : en122 44 = .inl (q.1, 8, .inl mFt29) := w_ne hE121 (by omega) he107
        have he126 : en122 45 = .inl (q.2.1, 8, .inr (.inl tFt29)) := w_ne hE121 (by omega) he108
        have he127 : en122 46 = .inl (q.2.1, 20, .inr (.inl rFt29)) := w_ne hE121 (by omega) he109
        have he128 : en122 47 = .inl (q.2.2.1, 328, .inl oht29) := w_ne hE121 (by omega) he110
        have he129 : en122 48 = .inl (q.1, 8, .inl omt29) := w_ne hE121 (by omega) he111
        have he130 : en122 49 = .inl (q.2.1, 8, .inr (.inl ott29)) := w_ne hE121 (by omega) he112
        have he131 : en122 50 = .inl (q.2.1, 20, .inr (.inl orrt29)) := w_ne hE121 (by omega) he113
        have he132 : en122 51 = .inl (q.1, 10, .inl wFt29) := w_ne hE121 (by omega) he114
        have he133 : en122 52 = .inl (q.1, 60, .inl sFt29) := w_ne hE121 (by omega) he115
        have he134 : en122 53 = .inl (q.1, 60, .inl kFt29) := w_ne hE121 (by omega) he116
        have he135 : en122 54 = .inl (q.1, 10, .inl aFt29) := w_ne hE121 (by omega) he117
        have he136 : en122 55 = .inl (q.1, 10, .inl (upd fFt29 c1 ((pl c1).2.2.2.2.1))) := w_self hE121
        have he137 : en122 56 = .inl (q.1, 10, .inl xFt29) := w_ne hE121 (by omega) he119
        have he138 : en122 57 = .inl (q.1, 7, .inl (upd (upd (upd (upd (upd gFt29 2 (cs 2 + 1)) 3 ((tR (pl c1) z a A).1)) 4 pla2) 5 (nI c1)) 6 z)) := w_ne hE121 (by omega) he120
        refine lv_ldc2 (v := (-9223372036854775806)) hx hb hown (hts (.constantLong RX3 126 (-9223372036854775806)) (by decide +kernel)) dX3_call_123 ?_
        refine we_l hx hb hr hlocks hw ?_ dX3_call_126
        have hS := sCall_fail (a := a) hc hnr h0
        have ht := tR_told (hpok c1 hc) h0
        refine ⟨hS.1.symm, ?_, fun j hj => (w_fr hE121 (by omega)).trans ((w_fr hE103 (by omega)).trans ((w_fr hE85 (by omega)).trans ((w_fr hE67 (by omega)).trans ((w_fr hE49 (by omega)).trans ((w_fr hE31 (by omega)).trans ((hfr1 j hj).trans (w_fr hE2 (by omega))))))))⟩
        rw [hS.2.1, hS.2.2.1, hS.2.2.2 cs, ← hpl2 h0]
        rw [← hpl2 h0] at ht
        rw [if_neg h0] at he123 hRt29
        obtain ⟨k1, k2, k3, k4, k5⟩ := hPlt29 c1 hc
        have hF : pForgetI pla2 (pl c1) = pl c1 := by
          unfold pForgetI
          rw [if_neg (fun h => absurd (ht.mpr h) (Int32.not_lt.mpr c109))]
        rw [hF]
        exact ⟨A, _, _, _, hok, ⟨he123, ⟨_, _, _, _, he124, he125, he126, he127, hRt29⟩, ⟨_, _, _, _, he128, he129, he130, he131, hOt29⟩, ⟨_, _, _, _, _, _, he132, he133, he134, he135, he136, he137, MPl_up hPlt29 hc (fun j e => ⟨rfl, rfl, pk_un e, rfl⟩) ⟨k1, k2, pk_us, k4, k5⟩⟩, ⟨_, he138, told_fail hTt29 _ _ _ _⟩⟩⟩
      · skip
        refine lv_iconst (v := (-1)) hx hb dX3_call_112 (by decide) ?_
        refine lv_goto (tgt := 122) hx hb dX3_call_113 (by decide) ?_
        refine wr_iast (j := c1) hx hb hw 55 (by omega) 0 he118 rfl (vp_in_nI (by omega) (by decide)) (nI_clamp (by omega)) dX3_call_122 (fun en140 H locs hE139 hw => ?_)
        have he141 : en140 42 = .inr (4, [.int 0, .ref (ad 43), .ref (ad 44), .ref (ad 45), .ref (ad 46), .int (nI (aCn ((if (tR (pl c1) z a A).1 = 0 then (tR (pl c1) z a A).2.2.1 else A)))), .ref (ad 47), .ref (ad 48), .ref (ad 49), .ref (ad 50), .int (nI (aCn A)), .ref (ad 51), .ref (ad 52), .ref (ad 53), .ref (ad 54), .ref (ad 55), .ref (ad 56), .ref (ad 57), .long ((tR (pl c1) z a A).2.2.2), .int ((tR (pl c1) z a A).1), .int pla2]) := w_ne hE139 (by omega) he105
        have he142 : en140 43 = .inl (q.2.2.1, 328, .inl hFt29) := w_ne hE139 (by omega) he106
        have he143 : en140 44 = .inl (q.1, 8, .inl mFt29) := w_ne hE139 (by omega) he107
        have he144 : en140 45 = .inl (q.2.1, 8, .inr (.inl tFt29)) := w_ne hE139 (by omega) he108
        have he145 : en140 46 = .inl (q.2.1, 20, .inr (.inl rFt29)) := w_ne hE139 (by omega) he109
        have he146 : en140 47 = .inl (q.2.2.1, 328, .inl oht29) := w_ne hE139 (by omega) he110
        have he147 : en140 48 = .inl (q.1, 8, .inl omt29) := w_ne hE139 (by omega) he111
        have he148 : en140 49 = .inl (q.2.1, 8, .inr (.inl ott29)) := w_ne hE139 (by omega) he112
        have he149 : en140 50 = .inl (q.2.1, 20, .inr (.inl orrt29)) := w_ne hE139 (by omega) he113
        have he150 : en140 51 = .inl (q.1, 10, .inl wFt29) := w_ne hE139 (by omega) he114
        have he151 : en140 52 = .inl (q.1, 60, .inl sFt29) := w_ne hE139 (by omega) he115
        have he152 : en140 53 = .inl (q.1, 60, .inl kFt29) := w_ne hE139 (by omega) he116
        have he153 : en140 54 = .inl (q.1, 10, .inl aFt29) := w_ne hE139 (by omega) he117
        have he154 : en140 55 = .inl (q.1, 10, .inl (upd fFt29 c1 ((-1)))) := w_self hE139
        have he155 : en140 56 = .inl (q.1, 10, .inl xFt29) := w_ne hE139 (by omega) he119
        have he156 : en140 57 = .inl (q.1, 7, .inl (upd (upd (upd (upd (upd gFt29 2 (cs 2 + 1)) 3 ((tR (pl c1) z a A).1)) 4 pla2) 5 (nI c1)) 6 z)) := w_ne hE139 (by omega) he120
        refine lv_ldc2 (v := (-9223372036854775806)) hx hb hown (hts (.constantLong RX3 126 (-9223372036854775806)) (by decide +kernel)) dX3_call_123 ?_
        refine we_l hx hb hr hlocks hw ?_ dX3_call_126
        have hS := sCall_fail (a := a) hc hnr h0
        have ht := tR_told (hpok c1 hc) h0
        refine ⟨hS.1.symm, ?_, fun j hj => (w_fr hE139 (by omega)).trans ((w_fr hE103 (by omega)).trans ((w_fr hE85 (by omega)).trans ((w_fr hE67 (by omega)).trans ((w_fr hE49 (by omega)).trans ((w_fr hE31 (by omega)).trans ((hfr1 j hj).trans (w_fr hE2 (by omega))))))))⟩
        rw [hS.2.1, hS.2.2.1, hS.2.2.2 cs, ← hpl2 h0]
        rw [← hpl2 h0] at ht
        rw [if_neg h0] at he141 hRt29
        obtain ⟨k1, k2, k3, k4, k5⟩ := hPlt29 c1 hc
        have hF : pForgetI pla2 (pl c1) = ((pl c1).1, (pl c1).2.1, (pl c1).2.2.1, (pl c1).2.2.2.1, -1, (pl c1).2.2.2.2.2) := by
          unfold pForgetI
          rw [if_pos (ht.mp (Int32.not_le.mp c109))]
        rw [hF]
        exact ⟨A, _, _, _, hok, ⟨he141, ⟨_, _, _, _, he142, he143, he144, he145, hRt29⟩, ⟨_, _, _, _, he146, he147, he148, he149, hOt29⟩, ⟨_, _, _, _, _, _, he150, he151, he152, he153, he154, he155, MPl_up hPlt29 hc (fun j e => ⟨rfl, rfl, pk_un e, rfl⟩) ⟨k1, k2, pk_us, k4, k5⟩⟩, ⟨_, he156, told_fail hTt29 _ _ _ _⟩⟩⟩
    · have h0 : (tR (pl c1) z a A).1 = 0 := z01_t hr1 c35
      refine lv_aload_n hx hb dX3_call_38 rfl (lv_at hl 0 rfl) ?_
      refine wr_get (ci := 4) (C := RX3) (T := TX3) (N := 21) hx hb hts iRX3 hown hw 42 (by omega) ot29 rfl 17 (by decide) (hts (.fieldLink RX3 54 "LibraryDeskModel" "told" "[I") (by decide +kernel)) (fun _ h9 => h9) rfl dX3_call_39 ?_
      refine lv_iconst (v := 0) hx hb dX3_call_42 (by decide) ?_
      refine lv_dup2_11 hx hb dX3_call_43 rfl rfl ?_
      refine wr_iald (v := cs 0) hx hb hw 57 (by omega) 0 e1t29 rfl (vp_in_nI (n := 0) (by decide) (by decide)) (by rw [(show (0 : Int32).toNatClampNeg = 0 by decide)]; exact hTt29 0 (by decide)) dX3_call_44 ?_
      refine lv_iconst (v := 1) hx hb dX3_call_45 (by decide) ?_
      refine lv_iadd hx hb dX3_call_46 ?_
      refine lv_topi (fun x157 ex157 => ?_)
      have ex157n : x157 = cs 0 + 1 := ex157.trans (rfl)
      clear ex157
      subst ex157n
      refine wr_iast (j := 0) hx hb hw 57 (by omega) 0 e1t29 rfl (vp_in_nI (n := 0) (by decide) (by decide)) (show (0 : Int32).toNatClampNeg = 0 by decide) dX3_call_47 (fun en159 H locs hE158 hw => ?_)
      have he160 : en159 42 = .inr (4, [.int 0, .ref (ad 43), .ref (ad 44), .ref (ad 45), .ref (ad 46), .int (nI (aCn ((if (tR (pl c1) z a A).1 = 0 then (tR (pl c1) z a A).2.2.1 else A)))), .ref (ad 47), .ref (ad 48), .ref (ad 49), .ref (ad 50), .int (nI (aCn A)), .ref (ad 51), .ref (ad 52), .ref (ad 53), .ref (ad 54), .ref (ad 55), .ref (ad 56), .ref (ad 57), .long ((tR (pl c1) z a A).2.2.2), .int ((tR (pl c1) z a A).1), .int pla2]) := w_ne hE158 (by omega) ot29
      have he161 : en159 43 = .inl (q.2.2.1, 328, .inl hFt29) := w_ne hE158 (by omega) a1t29
      have he162 : en159 44 = .inl (q.1, 8, .inl mFt29) := w_ne hE158 (by omega) a2t29
      have he163 : en159 45 = .inl (q.2.1, 8, .inr (.inl tFt29)) := w_ne hE158 (by omega) a3t29
      have he164 : en159 46 = .inl (q.2.1, 20, .inr (.inl rFt29)) := w_ne hE158 (by omega) a4t29
      have he165 : en159 47 = .inl (q.2.2.1, 328, .inl oht29) := w_ne hE158 (by omega) b1t29
      have he166 : en159 48 = .inl (q.1, 8, .inl omt29) := w_ne hE158 (by omega) b2t29
      have he167 : en159 49 = .inl (q.2.1, 8, .inr (.inl ott29)) := w_ne hE158 (by omega) b3t29
      have he168 : en159 50 = .inl (q.2.1, 20, .inr (.inl orrt29)) := w_ne hE158 (by omega) b4t29
      have he169 : en159 51 = .inl (q.1, 10, .inl wFt29) := w_ne hE158 (by omega) c1t29
      have he170 : en159 52 = .inl (q.1, 60, .inl sFt29) := w_ne hE158 (by omega) c2t29
      have he171 : en159 53 = .inl (q.1, 60, .inl kFt29) := w_ne hE158 (by omega) c3t29
      have he172 : en159 54 = .inl (q.1, 10, .inl aFt29) := w_ne hE158 (by omega) c4t29
      have he173 : en159 55 = .inl (q.1, 10, .inl fFt29) := w_ne hE158 (by omega) c5t29
      have he174 : en159 56 = .inl (q.1, 10, .inl xFt29) := w_ne hE158 (by omega) c6t29
      have he175 : en159 57 = .inl (q.1, 7, .inl (upd gFt29 0 (cs 0 + 1))) := w_self hE158
      refine lv_aload_n hx hb dX3_call_48 rfl (lv_at hl 0 rfl) ?_
      refine wr_get (ci := 4) (C := RX3) (T := TX3) (N := 21) hx hb hts iRX3 hown hw 42 (by omega) he160 rfl 18 (by decide) (hts (.fieldLink RX3 94 "LibraryDeskModel" "answer" "J") (by decide +kernel)) (fun _ h9 => h9) rfl dX3_call_49 ?_
      refine we_l hx hb hr hlocks hw ?_ dX3_call_52
      have hS := sCall_ok (a := a) hc hnr h0
      refine ⟨hS.1.symm, ?_, fun j hj => (w_fr hE158 (by omega)).trans ((hfr1 j hj).trans (w_fr hE2 (by omega)))⟩
      rw [hS.2.1, hS.2.2.1, hS.2.2.2 cs]
      rw [if_pos h0] at he160 hRt29
      exact ⟨A, _, _, _, hok, ⟨he160, ⟨_, _, _, _, he161, he162, he163, he164, hRt29⟩, ⟨_, _, _, _, he165, he166, he167, he168, hOt29⟩, ⟨_, _, _, _, _, _, he169, he170, he171, he172, he173, he174, hPlt29⟩, ⟨_, he175, upd_congr7 hTt29 0 (cs 0 + 1)⟩⟩⟩
  · have href := Decidable.of_not_not (z01_f hr24 c11)
    refine lv_aload_n hx hb dX3_call_14 rfl (lv_at hl 0 rfl) ?_
    refine wr_get (ci := 4) (C := RX3) (T := TX3) (N := 21) hx hb hts iRX3 hown hw 42 (by omega) ot20 rfl 17 (by decide) (hts (.fieldLink RX3 54 "LibraryDeskModel" "told" "[I") (by decide +kernel)) (fun _ h9 => h9) rfl dX3_call_15 ?_
    refine lv_iconst (v := 1) hx hb dX3_call_18 (by decide) ?_
    refine lv_dup2_11 hx hb dX3_call_19 rfl rfl ?_
    refine wr_iald (v := cs 1) hx hb hw 57 (by omega) 0 e1t20 rfl (vp_in_nI (n := 1) (by decide) (by decide)) (by rw [(show (1 : Int32).toNatClampNeg = 1 by decide)]; exact hTt20 1 (by decide)) dX3_call_20 ?_
    refine lv_iconst (v := 1) hx hb dX3_call_21 (by decide) ?_
    refine lv_iadd hx hb dX3_call_22 ?_
    refine lv_topi (fun x176 ex176 => ?_)
    have ex176n : x176 = cs 1 + 1 := ex176.trans (rfl)
    clear ex176
    subst ex176n
    refine wr_iast (j := 1) hx hb hw 57 (by omega) 0 e1t20 rfl (vp_in_nI (n := 1) (by decide) (by decide)) (show (1 : Int32).toNatClampNeg = 1 by decide) dX3_call_23 (fun en178 H locs hE177 hw => ?_)
    have he179 : en178 42 = .inr (4, [.int 0, .ref (ad 43), .ref (ad 44), .ref (ad 45), .ref (ad 46), .int (nI (aCn A)), .ref (ad 47), .ref (ad 48), .ref (ad 49), .ref (ad 50), .int (nI (aCn O)), .ref (ad 51), .ref (ad 52), .ref (ad 53), .ref (ad 54), .ref (ad 55), .ref (ad 56), .ref (ad 57), .long an, .int wy, .int pla]) := w_ne hE177 (by omega) ot20
    have he180 : en178 43 = .inl (q.2.2.1, 328, .inl hFt20) := w_ne hE177 (by omega) a1t20
    have he181 : en178 44 = .inl (q.1, 8, .inl mFt20) := w_ne hE177 (by omega) a2t20
    have he182 : en178 45 = .inl (q.2.1, 8, .inr (.inl tFt20)) := w_ne hE177 (by omega) a3t20
    have he183 : en178 46 = .inl (q.2.1, 20, .inr (.inl rFt20)) := w_ne hE177 (by omega) a4t20
    have he184 : en178 47 = .inl (q.2.2.1, 328, .inl oht20) := w_ne hE177 (by omega) b1t20
    have he185 : en178 48 = .inl (q.1, 8, .inl omt20) := w_ne hE177 (by omega) b2t20
    have he186 : en178 49 = .inl (q.2.1, 8, .inr (.inl ott20)) := w_ne hE177 (by omega) b3t20
    have he187 : en178 50 = .inl (q.2.1, 20, .inr (.inl orrt20)) := w_ne hE177 (by omega) b4t20
    have he188 : en178 51 = .inl (q.1, 10, .inl wFt20) := w_ne hE177 (by omega) c1t20
    have he189 : en178 52 = .inl (q.1, 60, .inl sFt20) := w_ne hE177 (by omega) c2t20
    have he190 : en178 53 = .inl (q.1, 60, .inl kFt20) := w_ne hE177 (by omega) c3t20
    have he191 : en178 54 = .inl (q.1, 10, .inl aFt20) := w_ne hE177 (by omega) c4t20
    have he192 : en178 55 = .inl (q.1, 10, .inl fFt20) := w_ne hE177 (by omega) c5t20
    have he193 : en178 56 = .inl (q.1, 10, .inl xFt20) := w_ne hE177 (by omega) c6t20
    have he194 : en178 57 = .inl (q.1, 7, .inl (upd gFt20 1 (cs 1 + 1))) := w_self hE177
    refine lv_ldc2 (v := (-9223372036854775807)) hx hb hown (hts (.constantLong RX3 120 (-9223372036854775807)) (by decide +kernel)) dX3_call_24 ?_
    refine we_l hx hb hr hlocks hw ?_ dX3_call_27
    have hS := sCall_ref (a := a) href
    refine ⟨hS.1.symm, ?_, fun j hj => (w_fr hE177 (by omega)).trans (w_fr hE2 (by omega))⟩
    rw [hS.2.1, hS.2.2.1, hS.2.2.2 cs]
    exact ⟨O, _, _, _, hokO, ⟨he179, ⟨_, _, _, _, he180, he181, he182, he183, hRt20⟩, ⟨_, _, _, _, he184, he185, he186, he187, hOt20⟩, ⟨_, _, _, _, _, _, he188, he189, he190, he191, he192, he193, hPlt20⟩, ⟨_, he194, upd_congr7 hTt20 1 (cs 1 + 1)⟩⟩⟩

set_option maxHeartbeats 4000000 in
set_option maxRecDepth 100000 in
theorem kX3_again (l : Launch) (dC : Nat → ClassId) (dI : Nat → Nat → Nat) (q : ClassId × ClassId × ClassId × ClassId) (ad : Nat → Nat) (en : Nat → va_E) (n sz : Nat) (hn58 : 58 ≤ n) (th : Int32) (A : Ast) (pl : Nat → Pst) (cs : Nat → Int32) (hok : Aok A) (hpok : ∀ i, i < 10 → Pok (pl i)) (hM0 : ModAt q ad en th A pl cs) (cv z : Int32) (a : Int64) :
    Met l yX3_again wsX3_again ({ frames := 5, cells := 0, slots := 0, locals := 115 }) (wPc (dC, dI) vwCl (wT q) ad en n sz [.ref (ad 42), .int cv, .int z, .long a]) (va_Ql (fun (r : Int64) (en' : Nat → va_E) => r = sCallR cv z a A pl ∧ ModAt q ad en' 0 A pl cs ∧ ∀ j, (j < 42 ∨ 58 ≤ j) → en' j = en j) (wB (dC, dI) vwCl (wT q) ad n (wA ad n sz)) (wA ad n sz)) 0 0 (wA ad n sz) := by
  refine Met.ofW (cc := cX3_again) (maxL := 6) (ret := (some .long)) (by decide) rfl ?_
  intro p e s m args below meth c s₁ B hml hv
  obtain ⟨rfl, hsz, hP, hK, hD0, hE0⟩ := hv
  have hx := B.exec
  have hb := B.bytes
  have hr := B.returns
  have hts := atoms_spec (ws := wsX3_again) B.pre
  have hown : s.vm.findClass RX3 = some m.cls := findClass_of_methodNamed B.named
  have hlocks := B.notSynchronized
  have iRX3 : ∀ w ∈ u_ws RX3 TX3 21, w ∈ wsX3_again := by decide +kernel
  subst hsz
  have hw := wk_of hP hK hD0 hE0
  generalize wA ad n s.heap.size = AA at hw ⊢
  have hl := lv_entry ([.ref (ad 42), .int cv, .int z, .long a]) (n := 6) (Nat.le_of_ble_eq_true rfl)
  rw [lg_entry_eq]
  generalize (lg_sl ([.ref (ad 42), .int cv, .int z, .long a]) ++ List.replicate (6 - (lg_sl ([.ref (ad 42), .int cv, .int z, .long a])).length) Slot.unset).toArray = ls at hl ⊢
  have hl : lv_has ls 6 [(0, .ref (ad 42)), (1, .int cv), (2, .int z), (3, .long a)] := hl
  obtain ⟨O, an, wy, pla, hokO, hM⟩ := hM0
  have hcn := hok.2
  obtain ⟨ot1, ⟨hFt1, mFt1, tFt1, rFt1, a1t1, a2t1, a3t1, a4t1, hRt1⟩, ⟨oht1, omt1, ott1, orrt1, b1t1, b2t1, b3t1, b4t1, hOt1⟩, ⟨wFt1, sFt1, kFt1, aFt1, fFt1, xFt1, c1t1, c2t1, c3t1, c4t1, c5t1, c6t1, hPlt1⟩, ⟨gFt1, e1t1, hTt1⟩⟩ := id hM
  refine lv_aload_n hx hb dX3_again_0 rfl (lv_at hl 0 rfl) ?_
  refine lv_iconst (v := 0) hx hb dX3_again_1 (by decide) ?_
  refine wr_put (ci := 4) (v := .int 0) (ty := .int) (C := RX3) (T := TX3) (N := 21) hx hb hts iRX3 tyX3 tyX3_ok nmX3 hown hw 42 (by omega) ot1 rfl 0 (by decide) (hts (.fieldLink RX3 57 "LibraryDeskModel" "thrown" "I") (by decide +kernel)) (fun _ h9 => h9) rfl (by decide +kernel) rfl rfl (Nat.le_of_ble_eq_true rfl) dX3_again_2 (fun en3 H locs hE2 hw => ?_)
  have he4 : en3 42 = .inr (4, [.int 0, .ref (ad 43), .ref (ad 44), .ref (ad 45), .ref (ad 46), .int (nI (aCn A)), .ref (ad 47), .ref (ad 48), .ref (ad 49), .ref (ad 50), .int (nI (aCn O)), .ref (ad 51), .ref (ad 52), .ref (ad 53), .ref (ad 54), .ref (ad 55), .ref (ad 56), .ref (ad 57), .long an, .int wy, .int pla]) := w_self hE2
  have he5 : en3 43 = .inl (q.2.2.1, 328, .inl hFt1) := w_ne hE2 (by omega) a1t1
  have he6 : en3 44 = .inl (q.1, 8, .inl mFt1) := w_ne hE2 (by omega) a2t1
  have he7 : en3 45 = .inl (q.2.1, 8, .inr (.inl tFt1)) := w_ne hE2 (by omega) a3t1
  have he8 : en3 46 = .inl (q.2.1, 20, .inr (.inl rFt1)) := w_ne hE2 (by omega) a4t1
  have he9 : en3 47 = .inl (q.2.2.1, 328, .inl oht1) := w_ne hE2 (by omega) b1t1
  have he10 : en3 48 = .inl (q.1, 8, .inl omt1) := w_ne hE2 (by omega) b2t1
  have he11 : en3 49 = .inl (q.2.1, 8, .inr (.inl ott1)) := w_ne hE2 (by omega) b3t1
  have he12 : en3 50 = .inl (q.2.1, 20, .inr (.inl orrt1)) := w_ne hE2 (by omega) b4t1
  have he13 : en3 51 = .inl (q.1, 10, .inl wFt1) := w_ne hE2 (by omega) c1t1
  have he14 : en3 52 = .inl (q.1, 60, .inl sFt1) := w_ne hE2 (by omega) c2t1
  have he15 : en3 53 = .inl (q.1, 60, .inl kFt1) := w_ne hE2 (by omega) c3t1
  have he16 : en3 54 = .inl (q.1, 10, .inl aFt1) := w_ne hE2 (by omega) c4t1
  have he17 : en3 55 = .inl (q.1, 10, .inl fFt1) := w_ne hE2 (by omega) c5t1
  have he18 : en3 56 = .inl (q.1, 10, .inl xFt1) := w_ne hE2 (by omega) c6t1
  have he19 : en3 57 = .inl (q.1, 7, .inl gFt1) := w_ne hE2 (by omega) e1t1
  have hMz : ModC q ad en3 0 A O pl cs an wy pla := ⟨he4, ⟨_, _, _, _, he5, he6, he7, he8, hRt1⟩, ⟨_, _, _, _, he9, he10, he11, he12, hOt1⟩, ⟨_, _, _, _, _, _, he13, he14, he15, he16, he17, he18, hPlt1⟩, ⟨_, he19, hTt1⟩⟩
  obtain ⟨ot20, ⟨hFt20, mFt20, tFt20, rFt20, a1t20, a2t20, a3t20, a4t20, hRt20⟩, ⟨oht20, omt20, ott20, orrt20, b1t20, b2t20, b3t20, b4t20, hOt20⟩, ⟨wFt20, sFt20, kFt20, aFt20, fFt20, xFt20, c1t20, c2t20, c3t20, c4t20, c5t20, c6t20, hPlt20⟩, ⟨gFt20, e1t20, hTt20⟩⟩ := id hMz
  refine lv_aload_n hx hb dX3_again_5 rfl (lv_at hl 0 rfl) ?_
  refine lv_iload_n hx hb dX3_again_6 rfl (lv_at hl 1 rfl) ?_
  refine lv_iload_n hx hb dX3_again_7 rfl (lv_at hl 2 rfl) ?_
  refine wc_i hw (va_runV (As := [.int cv, .int z]) (rest := []) ⟨hx, hb, hml, hown, hts⟩ (kX3_may l dC dI q ad en3 n _ hn58 0 A O pl cs an wy pla hok hMz cv z) (cwV 2 hts gX3_again_X3_may rfl rfl rfl (by decide +kernel) ⟨Nat.le_of_ble_eq_true rfl, Nat.le_of_ble_eq_true rfl⟩) (wk_preV hw (by omega) ot20 rfl) rfl rfl hl.1 rfl (lv_room (Nat.le_of_ble_eq_true rfl)) dX3_again_8 ⟨Nat.le_refl _, Nat.le_refl _⟩) (fun r21 en23 H locs hp22 hw => ?_)
  obtain ⟨hr24, hn25⟩ := hp22
  rw [hn25] at hw
  clear hn25
  refine lv_if_ne (tgt := 18) hx hb dX3_again_11 (by decide) (fun c11 => ?_) (fun c11 => ?_)
  · have hnr := z01_t hr24 c11
    have hcv : okC cv := Decidable.of_not_not (fun h => hnr (Or.inl h))
    obtain ⟨c1, hc, ecv⟩ := okC_of hcv
    subst ecv
    refine lv_aload_n hx hb dX3_again_18 rfl (lv_at hl 0 rfl) ?_
    refine lv_iload_n hx hb dX3_again_19 rfl (lv_at hl 1 rfl) ?_
    refine lv_iload_n hx hb dX3_again_20 rfl (lv_at hl 2 rfl) ?_
    refine lv_lload_n hx hb dX3_again_21 rfl (lv_at hl 3 rfl) ?_
    refine wc_i hw (va_runV (As := [.int (nI c1), .int z, .long a]) (rest := []) ⟨hx, hb, hml, hown, hts⟩ (kX3_done l dC dI q ad en3 n _ hn58 0 A O pl cs an wy pla hok hMz hokO c1 hc (hpok c1 hc) z a) (cwV 3 hts gX3_again_X3_done rfl rfl rfl (by decide +kernel) ⟨Nat.le_of_ble_eq_true rfl, Nat.le_of_ble_eq_true rfl⟩) (wk_preV hw (by omega) ot20 rfl) rfl rfl hl.1 rfl (lv_room (Nat.le_of_ble_eq_true rfl)) dX3_again_22 ⟨Nat.le_refl _, Nat.le_refl _⟩) (fun r26 en28 H locs hp27 hw => ?_)
    obtain ⟨hr1, pla2, hM1, hpl2, hfr1⟩ := hp27
    obtain ⟨ot29, ⟨hFt29, mFt29, tFt29, rFt29, a1t29, a2t29, a3t29, a4t29, hRt29⟩, ⟨oht29, omt29, ott29, orrt29, b1t29, b2t29, b3t29, b4t29, hOt29⟩, ⟨wFt29, sFt29, kFt29, aFt29, fFt29, xFt29, c1t29, c2t29, c3t29, c4t29, c5t29, c6t29, hPlt29⟩, ⟨gFt29, e1t29, hTt29⟩⟩ := id hM1
    refine lv_istore (lv' := [(5, .int r26), (0, .ref (ad 42)), (1, .int (nI c1)), (2, .int z), (3, .long a)]) hx hb dX3_again_25 hl (by decide) rfl (fun ls hl => ?_)
    refine lv_aload_n hx hb dX3_again_27 rfl (lv_at hl 1 rfl) ?_
    refine wc_v hw (va_runV (As := []) (rest := []) ⟨hx, hb, hml, hown, hts⟩ (kX3_restore l dC dI q ad en28 n _ hn58 0 (if (tR (pl c1) z a A).1 = 0 then (tR (pl c1) z a A).2.2.1 else A) A pl cs (tR (pl c1) z a A).2.2.2 (tR (pl c1) z a A).1 pla2 (by split <;> first | exact Aok_tR hok | exact hok) hM1 hok) (cwV 0 hts gX3_again_X3_restore rfl rfl rfl (by decide +kernel) ⟨Nat.le_of_ble_eq_true rfl, Nat.le_of_ble_eq_true rfl⟩) (wk_preV hw (by omega) ot29 rfl) rfl rfl hl.1 rfl (lv_room (Nat.le_of_ble_eq_true rfl)) dX3_again_28 ⟨Nat.le_refl _, Nat.le_refl _⟩) (fun en32 H locs hp31 hw => ?_)
    obtain ⟨hM6, hfr6⟩ := hp31
    obtain ⟨ot33, ⟨hFt33, mFt33, tFt33, rFt33, a1t33, a2t33, a3t33, a4t33, hRt33⟩, ⟨oht33, omt33, ott33, orrt33, b1t33, b2t33, b3t33, b4t33, hOt33⟩, ⟨wFt33, sFt33, kFt33, aFt33, fFt33, xFt33, c1t33, c2t33, c3t33, c4t33, c5t33, c6t33, hPlt33⟩, ⟨gFt33, e1t33, hTt33⟩⟩ := id hM6
    refine lv_iload hx hb dX3_again_31 (lv_at hl 0 rfl) ?_
    refine lv_if_eq (tgt := 43) hx hb dX3_again_33 (by decide) (fun c33 => ?_) (fun c33 => ?_)
    · have h0 : ¬ (tR (pl c1) z a A).1 = 0 := z01_f hr1 c33
      refine lv_ldc2 (v := (-9223372036854775806)) hx hb hown (hts (.constantLong RX3 126 (-9223372036854775806)) (by decide +kernel)) dX3_again_43 ?_
      refine we_l hx hb hr hlocks hw ?_ dX3_again_46
      have hS := sCall_fail (a := a) hc hnr h0
      exact ⟨hS.1.symm, ⟨A, _, _, _, hok, hM6⟩, fun j hj => (hfr6 j hj).trans ((hfr1 j hj).trans (w_fr hE2 (by omega)))⟩
    · have h0 : (tR (pl c1) z a A).1 = 0 := z01_t hr1 c33
      refine lv_aload_n hx hb dX3_again_36 rfl (lv_at hl 1 rfl) ?_
      refine wr_get (ci := 4) (C := RX3) (T := TX3) (N := 21) hx hb hts iRX3 hown hw 42 (by omega) ot33 rfl 18 (by decide) (hts (.fieldLink RX3 94 "LibraryDeskModel" "answer" "J") (by decide +kernel)) (fun _ h9 => h9) rfl dX3_again_37 ?_
      refine lv_goto (tgt := 46) hx hb dX3_again_40 (by decide) ?_
      refine we_l hx hb hr hlocks hw ?_ dX3_again_46
      have hS := sCall_ok (a := a) hc hnr h0
      exact ⟨hS.1.symm, ⟨A, _, _, _, hok, hM6⟩, fun j hj => (hfr6 j hj).trans ((hfr1 j hj).trans (w_fr hE2 (by omega)))⟩
  · have href := Decidable.of_not_not (z01_f hr24 c11)
    refine lv_ldc2 (v := (-9223372036854775807)) hx hb hown (hts (.constantLong RX3 120 (-9223372036854775807)) (by decide +kernel)) dX3_again_14 ?_
    refine we_l hx hb hr hlocks hw ?_ dX3_again_17
    have hS := sCall_ref (a := a) href
    exact ⟨hS.1.symm, ⟨O, an, wy, pla, hokO, hMz⟩, fun j hj => w_fr hE2 (by omega)⟩
