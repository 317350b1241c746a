set_option maxHeartbeats 4000000 in
set_option maxRecDepth 100000 in
theorem kX3_keep (l : Launch) (dC : Nat → ClassId) (dI : Nat → Nat → Nat) (q : ClassId × ClassId × ClassId × ClassId) (ad : Nat → Nat) (en : Nat → va_E) (n sz : Nat) (hn58 : 58 ≤ n) (th : Int32) (A O : Ast) (pl : Nat → Pst) (cs : Nat → Int32) (an : Int64) (wy pla : Int32) (hok : Aok A) (hM : ModC q ad en th A O pl cs an wy pla) (hokO : Aok O) :
    Met l yX3_keep wsX3_keep ({ frames := 0, cells := 0, slots := 0, locals := 0 }) (wPc (dC, dI) vwCl (wT q) ad en n sz [.ref (ad 42)]) (va_Qv (fun (en' : Nat → va_E) => ModC q ad en' th A A pl cs an wy pla ∧ ∀ j, (j < 42 ∨ 58 ≤ j) → en' j = en j) (wB (dC, dI) vwCl (wT q) ad n (wA ad n sz)) (wA ad n sz)) 0 0 (wA ad n sz) := by
  refine Met.ofW (cc := cX3_keep) (maxL := 2) (ret := none) (by decide) rfl ?_
  intro p e s m args below meth c s₁ B hml hv
  obtain ⟨rfl, hsz, hP, hK, hD0, hE0⟩ := hv
  have hx := B.exec
  have hb := B.bytes
  have hr := B.returns
  have hts := atoms_spec (ws := wsX3_keep) B.pre
  have hown : s.vm.findClass RX3 = some m.cls := findClass_of_methodNamed B.named
  have hlocks := B.notSynchronized
  have iRX3 : ∀ w ∈ u_ws RX3 TX3 21, w ∈ wsX3_keep := by decide +kernel
  subst hsz
  have hw := wk_of hP hK hD0 hE0
  generalize wA ad n s.heap.size = AA at hw ⊢
  have hl := lv_entry ([.ref (ad 42)]) (n := 2) (Nat.le_of_ble_eq_true rfl)
  rw [lg_entry_eq]
  generalize (lg_sl ([.ref (ad 42)]) ++ List.replicate (2 - (lg_sl ([.ref (ad 42)])).length) Slot.unset).toArray = ls at hl ⊢
  have hl : lv_has ls 2 [(0, .ref (ad 42))] := hl
  obtain ⟨ot1, ⟨hFt1, mFt1, tFt1, rFt1, a1t1, a2t1, a3t1, a4t1, hRt1⟩, ⟨oht1, omt1, ott1, orrt1, b1t1, b2t1, b3t1, b4t1, hOt1⟩, ⟨wFt1, sFt1, kFt1, aFt1, fFt1, xFt1, c1t1, c2t1, c3t1, c4t1, c5t1, c6t1, hPlt1⟩, ⟨gFt1, e1t1, hTt1⟩⟩ := id hM
  have hcn := hok.2
  have hcO := hokO.2
  refine lv_iconst (v := 0) hx hb dX3_keep_0 (by decide) ?_
  refine lv_istore_n (lv' := [(1, .int 0), (0, .ref (ad 42))]) hx hb dX3_keep_1 rfl hl (by decide) rfl (fun ls hl => ?_)
  have keyz2 : ∀ (d iz2 : Nat), iz2 + d = 328 → ∀ (foHz2 : Nat → Int32) (enz2 : Nat → va_E), (∀ j, j < iz2 → foHz2 j = hFt1 j) → enz2 42 = .inr (4, [.int th, .ref (ad 43), .ref (ad 44), .ref (ad 45), .ref (ad 46), .int (nI (aCn A)), .ref (ad 47), .ref (ad 48), .ref (ad 49), .ref (ad 50), .int (nI (aCn O)), .ref (ad 51), .ref (ad 52), .ref (ad 53), .ref (ad 54), .ref (ad 55), .ref (ad 56), .ref (ad 57), .long an, .int wy, .int pla]) → enz2 43 = .inl (q.2.2.1, 328, .inl hFt1) → enz2 44 = .inl (q.1, 8, .inl mFt1) → enz2 45 = .inl (q.2.1, 8, .inr (.inl tFt1)) → enz2 46 = .inl (q.2.1, 20, .inr (.inl rFt1)) → enz2 47 = .inl (q.2.2.1, 328, .inl foHz2) → enz2 48 = .inl (q.1, 8, .inl omt1) → enz2 49 = .inl (q.2.1, 8, .inr (.inl ott1)) → enz2 50 = .inl (q.2.1, 20, .inr (.inl orrt1)) → enz2 51 = .inl (q.1, 10, .inl wFt1) → enz2 52 = .inl (q.1, 60, .inl sFt1) → enz2 53 = .inl (q.1, 60, .inl kFt1) → enz2 54 = .inl (q.1, 10, .inl aFt1) → enz2 55 = .inl (q.1, 10, .inl fFt1) → enz2 56 = .inl (q.1, 10, .inl xFt1) → enz2 57 = .inl (q.1, 7, .inl gFt1) → (∀ j, (j < 42 ∨ 58 ≤ j) → enz2 j = en j) → ∀ (H : Heap) (locs : List Loc), wk (dC, dI) vwCl (wT q) ad enz2 n AA s H locs → ∀ ls : Array Slot, lv_has ls 2 [(1, .int (nI iz2)), (0, .ref (ad 42))] → W p l e (headSpec wsX3_keep ({ frames := 0, cells := 0, slots := 0, locals := 0 })).room s m ([.ref (ad 42)].toArray) below meth c H locs 0 0 (MQ below (va_Qv (fun (en' : Nat → va_E) => ModC q ad en' th A A pl cs an wy pla ∧ ∀ j, (j < 42 ∨ 58 ≤ j) → en' j = en j) (wB (dC, dI) vwCl (wT q) ad n AA) AA) ([.ref (ad 42)].toArray) s 0 0 AA) (F0 m 2 ls []) := by
    intro d
    induction d with
    | zero =>
      intro iz2 hiz2 foHz2 enz2 hcoHz2 gOz2 gHz2 gMz2 gTz2 gRz2 goHz2 goMz2 goTz2 goRz2 gwz2 gsz2 gkz2 gaz2 gfz2 gxz2 gtz2 hfrz2 H locs hw ls hl
      have hi0 : iz2 = 328 := by omega
      subst hi0
      refine lv_iload_n hx hb dX3_keep_2 rfl (lv_at hl 0 rfl) ?_
      refine lv_sipush (v := 328) hx hb dX3_keep_3 (by decide) ?_
      refine lv_icmp_ge (tgt := 27) hx hb dX3_keep_6 (by decide) (fun c6 => ?_) (fun c6 => ?_)
      · refine lv_iconst (v := 0) hx hb dX3_keep_27 (by decide) ?_
        refine lv_istore_n (lv' := [(1, .int 0), (0, .ref (ad 42))]) hx hb dX3_keep_28 rfl hl (by decide) rfl (fun ls hl => ?_)
        have keyz3 : ∀ (d iz3 : Nat), iz3 + d = 8 → ∀ (foMz3 : Nat → Int32) (foTz3 : Nat → Int64) (enz3 : Nat → va_E), (∀ j, j < iz3 → foMz3 j = mFt1 j) → (∀ j, j < iz3 → foTz3 j = tFt1 j) → enz3 42 = .inr (4, [.int th, .ref (ad 43), .ref (ad 44), .ref (ad 45), .ref (ad 46), .int (nI (aCn A)), .ref (ad 47), .ref (ad 48), .ref (ad 49), .ref (ad 50), .int (nI (aCn O)), .ref (ad 51), .ref (ad 52), .ref (ad 53), .ref (ad 54), .ref (ad 55), .ref (ad 56), .ref (ad 57), .long an, .int wy, .int pla]) → enz3 43 = .inl (q.2.2.1, 328, .inl hFt1) → enz3 44 = .inl (q.1, 8, .inl mFt1) → enz3 45 = .inl (q.2.1, 8, .inr (.inl tFt1)) → enz3 46 = .inl (q.2.1, 20, .inr (.inl rFt1)) → enz3 47 = .inl (q.2.2.1, 328, .inl foHz2) → enz3 48 = .inl (q.1, 8, .inl foMz3) → enz3 49 = .inl (q.2.1, 8, .inr (.inl foTz3)) → enz3 50 = .inl (q.2.1, 20, .inr (.inl orrt1)) → enz3 51 = .inl (q.1, 10, .inl wFt1) → enz3 52 = .inl (q.1, 60, .inl sFt1) → enz3 53 = .inl (q.1, 60, .inl kFt1) → enz3 54 = .inl (q.1, 10, .inl aFt1) → enz3 55 = .inl (q.1, 10, .inl fFt1) → enz3 56 = .inl (q.1, 10, .inl xFt1) → enz3 57 = .inl (q.1, 7, .inl gFt1) → (∀ j, (j < 42 ∨ 58 ≤ j) → enz3 j = en j) → ∀ (H : Heap) (locs : List Loc), wk (dC, dI) vwCl (wT q) ad enz3 n AA s H locs → ∀ ls : Array Slot, lv_has ls 2 [(1, .int (nI iz3)), (0, .ref (ad 42))] → W p l e (headSpec wsX3_keep ({ frames := 0, cells := 0, slots := 0, locals := 0 })).room s m ([.ref (ad 42)].toArray) below meth c H locs 0 0 (MQ below (va_Qv (fun (en' : Nat → va_E) => ModC q ad en' th A A pl cs an wy pla ∧ ∀ j, (j < 42 ∨ 58 ≤ j) → en' j = en j) (wB (dC, dI) vwCl (wT q) ad n AA) AA) ([.ref (ad 42)].toArray) s 0 0 AA) (F0 m 29 ls []) := by
          intro d
          induction d with
          | zero =>
            intro iz3 hiz3 foMz3 foTz3 enz3 hcoMz3 hcoTz3 gOz3 gHz3 gMz3 gTz3 gRz3 goHz3 goMz3 goTz3 goRz3 gwz3 gsz3 gkz3 gaz3 gfz3 gxz3 gtz3 hfrz3 H locs hw ls hl
            have hi0 : iz3 = 8 := by omega
            subst hi0
            refine lv_iload_n hx hb dX3_keep_29 rfl (lv_at hl 0 rfl) ?_
            refine lv_bipush (v := 8) hx hb dX3_keep_30 (by decide) ?_
            refine lv_icmp_ge (tgt := 65) hx hb dX3_keep_32 (by decide) (fun c32 => ?_) (fun c32 => ?_)
            · refine lv_iconst (v := 0) hx hb dX3_keep_65 (by decide) ?_
              refine lv_istore_n (lv' := [(1, .int 0), (0, .ref (ad 42))]) hx hb dX3_keep_66 rfl hl (by decide) rfl (fun ls hl => ?_)
              have keyz4 : ∀ (d iz4 : Nat), iz4 + d = 20 → ∀ (foRz4 : Nat → Int64) (enz4 : Nat → va_E), (∀ j, j < iz4 → foRz4 j = rFt1 j) → enz4 42 = .inr (4, [.int th, .ref (ad 43), .ref (ad 44), .ref (ad 45), .ref (ad 46), .int (nI (aCn A)), .ref (ad 47), .ref (ad 48), .ref (ad 49), .ref (ad 50), .int (nI (aCn O)), .ref (ad 51), .ref (ad 52), .ref (ad 53), .ref (ad 54), .ref (ad 55), .ref (ad 56), .ref (ad 57), .long an, .int wy, .int pla]) → enz4 43 = .inl (q.2.2.1, 328, .inl hFt1) → enz4 44 = .inl (q.1, 8, .inl mFt1) → enz4 45 = .inl (q.2.1, 8, .inr (.inl tFt1)) → enz4 46 = .inl (q.2.1, 20, .inr (.inl rFt1)) → enz4 47 = .inl (q.2.2.1, 328, .inl foHz2) → enz4 48 = .inl (q.1, 8, .inl foMz3) → enz4 49 = .inl (q.2.1, 8, .inr (.inl foTz3)) → enz4 50 = .inl (q.2.1, 20, .inr (.inl foRz4)) → enz4 51 = .inl (q.1, 10, .inl wFt1) → enz4 52 = .inl (q.1, 60, .inl sFt1) → enz4 53 = .inl (q.1, 60, .inl kFt1) → enz4 54 = .inl (q.1, 10, .inl aFt1) → enz4 55 = .inl (q.1, 10, .inl fFt1) → enz4 56 = .inl (q.1, 10, .inl xFt1) → enz4 57 = .inl (q.1, 7, .inl gFt1) → (∀ j, (j < 42 ∨ 58 ≤ j) → enz4 j = en j) → ∀ (H : Heap) (locs : List Loc), wk (dC, dI) vwCl (wT q) ad enz4 n AA s H locs → ∀ ls : Array Slot, lv_has ls 2 [(1, .int (nI iz4)), (0, .ref (ad 42))] → W p l e (headSpec wsX3_keep ({ frames := 0, cells := 0, slots := 0, locals := 0 })).room s m ([.ref (ad 42)].toArray) below meth c H locs 0 0 (MQ below (va_Qv (fun (en' : Nat → va_E) => ModC q ad en' th A A pl cs an wy pla ∧ ∀ j, (j < 42 ∨ 58 ≤ j) → en' j = en j) (wB (dC, dI) vwCl (wT q) ad n AA) AA) ([.ref (ad 42)].toArray) s 0 0 AA) (F0 m 67 ls []) := by
                intro d
                induction d with
                | zero =>
                  intro iz4 hiz4 foRz4 enz4 hcoRz4 gOz4 gHz4 gMz4 gTz4 gRz4 goHz4 goMz4 goTz4 goRz4 gwz4 gsz4 gkz4 gaz4 gfz4 gxz4 gtz4 hfrz4 H locs hw ls hl
                  have hi0 : iz4 = 20 := by omega
                  subst hi0
                  refine lv_iload_n hx hb dX3_keep_67 rfl (lv_at hl 0 rfl) ?_
                  refine lv_bipush (v := 20) hx hb dX3_keep_68 (by decide) ?_
                  refine lv_icmp_ge (tgt := 91) hx hb dX3_keep_70 (by decide) (fun c70 => ?_) (fun c70 => ?_)
                  · refine lv_aload_n hx hb dX3_keep_91 rfl (lv_at hl 1 rfl) ?_
                    refine lv_aload_n hx hb dX3_keep_92 rfl (lv_at hl 1 rfl) ?_
                    refine wr_get (ci := 4) (C := RX3) (T := TX3) (N := 21) hx hb hts iRX3 hown hw 42 (by omega) gOz4 rfl 5 (by decide) (hts (.fieldLink RX3 61 "LibraryDeskModel" "size" "I") (by decide +kernel)) (fun _ h9 => h9) rfl dX3_keep_93 ?_
                    refine wr_put (ci := 4) (v := .int (nI (aCn A))) (ty := .int) (C := RX3) (T := TX3) (N := 21) hx hb hts iRX3 tyX3 tyX3_ok nmX3 hown hw 42 (by omega) gOz4 rfl 10 (by decide) (hts (.fieldLink RX3 82 "LibraryDeskModel" "oldSize" "I") (by decide +kernel)) (fun _ h9 => h9) rfl (by decide +kernel) rfl rfl (Nat.le_of_ble_eq_true rfl) dX3_keep_96 (fun en6 H locs hE5 hw => ?_)
                    have he7 : en6 42 = .inr (4, [.int th, .ref (ad 43), .ref (ad 44), .ref (ad 45), .ref (ad 46), .int (nI (aCn A)), .ref (ad 47), .ref (ad 48), .ref (ad 49), .ref (ad 50), .int (nI (aCn A)), .ref (ad 51), .ref (ad 52), .ref (ad 53), .ref (ad 54), .ref (ad 55), .ref (ad 56), .ref (ad 57), .long an, .int wy, .int pla]) := w_self hE5
                    have he8 : en6 43 = .inl (q.2.2.1, 328, .inl hFt1) := w_ne hE5 (by omega) gHz4
                    have he9 : en6 44 = .inl (q.1, 8, .inl mFt1) := w_ne hE5 (by omega) gMz4
                    have he10 : en6 45 = .inl (q.2.1, 8, .inr (.inl tFt1)) := w_ne hE5 (by omega) gTz4
                    have he11 : en6 46 = .inl (q.2.1, 20, .inr (.inl rFt1)) := w_ne hE5 (by omega) gRz4
                    have he12 : en6 47 = .inl (q.2.2.1, 328, .inl foHz2) := w_ne hE5 (by omega) goHz4
                    have he13 : en6 48 = .inl (q.1, 8, .inl foMz3) := w_ne hE5 (by omega) goMz4
                    have he14 : en6 49 = .inl (q.2.1, 8, .inr (.inl foTz3)) := w_ne hE5 (by omega) goTz4
                    have he15 : en6 50 = .inl (q.2.1, 20, .inr (.inl foRz4)) := w_ne hE5 (by omega) goRz4
                    have he16 : en6 51 = .inl (q.1, 10, .inl wFt1) := w_ne hE5 (by omega) gwz4
                    have he17 : en6 52 = .inl (q.1, 60, .inl sFt1) := w_ne hE5 (by omega) gsz4
                    have he18 : en6 53 = .inl (q.1, 60, .inl kFt1) := w_ne hE5 (by omega) gkz4
                    have he19 : en6 54 = .inl (q.1, 10, .inl aFt1) := w_ne hE5 (by omega) gaz4
                    have he20 : en6 55 = .inl (q.1, 10, .inl fFt1) := w_ne hE5 (by omega) gfz4
                    have he21 : en6 56 = .inl (q.1, 10, .inl xFt1) := w_ne hE5 (by omega) gxz4
                    have he22 : en6 57 = .inl (q.1, 7, .inl gFt1) := w_ne hE5 (by omega) gtz4
                    refine we_v hx hb hr hlocks hw ?_ dX3_keep_99
                    exact ⟨⟨he7, ⟨_, _, _, _, he8, he9, he10, he11, hRt1⟩, ⟨_, _, _, _, he12, he13, he14, he15, RM_congr hRt1 hcn (fun i hi => hcoHz2 i hi) (fun i hi => hcoMz3 i hi) (fun i hi => hcoTz3 i hi) (fun i hi => hcoRz4 i hi)⟩, ⟨_, _, _, _, _, _, he16, he17, he18, he19, he20, he21, hPlt1⟩, ⟨_, he22, hTt1⟩⟩, fun j hj => (w_fr hE5 (by omega)).trans (hfrz4 j hj)⟩
                  · exact absurd (Int32.le_refl _) c70
                | succ d ih =>
                  intro iz4 hiz4 foRz4 enz4 hcoRz4 gOz4 gHz4 gMz4 gTz4 gRz4 goHz4 goMz4 goTz4 goRz4 gwz4 gsz4 gkz4 gaz4 gfz4 gxz4 gtz4 hfrz4 H locs hw ls hl
                  refine lv_iload_n hx hb dX3_keep_67 rfl (lv_at hl 0 rfl) ?_
                  refine lv_bipush (v := 20) hx hb dX3_keep_68 (by decide) ?_
                  refine lv_icmp_ge (tgt := 91) hx hb dX3_keep_70 (by decide) (fun c70 => ?_) (fun c70 => ?_)
                  · exact absurd ((nI_leI (a := 20) (by omega) (by omega)).mp c70) (by omega)
                  · refine lv_aload_n hx hb dX3_keep_73 rfl (lv_at hl 1 rfl) ?_
                    refine wr_get (ci := 4) (C := RX3) (T := TX3) (N := 21) hx hb hts iRX3 hown hw 42 (by omega) gOz4 rfl 9 (by decide) (hts (.fieldLink RX3 33 "LibraryDeskModel" "oldRow" "[J") (by decide +kernel)) (fun _ h9 => h9) rfl dX3_keep_74 ?_
                    refine lv_iload_n hx hb dX3_keep_77 rfl (lv_at hl 0 rfl) ?_
                    refine lv_aload_n hx hb dX3_keep_78 rfl (lv_at hl 1 rfl) ?_
                    refine wr_get (ci := 4) (C := RX3) (T := TX3) (N := 21) hx hb hts iRX3 hown hw 42 (by omega) gOz4 rfl 4 (by decide) (hts (.fieldLink RX3 21 "LibraryDeskModel" "row" "[J") (by decide +kernel)) (fun _ h9 => h9) rfl dX3_keep_79 ?_
                    refine lv_iload_n hx hb dX3_keep_82 rfl (lv_at hl 0 rfl) ?_
                    refine wr_lald (v := rFt1 iz4) hx hb hw 46 (by omega) 1 gRz4 rfl (vp_in_nI (by omega) (by decide)) (by rw [(nI_clamp (by omega))]) dX3_keep_83 ?_
                    refine wr_last (j := iz4) hx hb hw 50 (by omega) 1 goRz4 rfl (vp_in_nI (by omega) (by decide)) (nI_clamp (by omega)) dX3_keep_84 (fun en24 H locs hE23 hw => ?_)
                    have he25 : en24 42 = .inr (4, [.int th, .ref (ad 43), .ref (ad 44), .ref (ad 45), .ref (ad 46), .int (nI (aCn A)), .ref (ad 47), .ref (ad 48), .ref (ad 49), .ref (ad 50), .int (nI (aCn O)), .ref (ad 51), .ref (ad 52), .ref (ad 53), .ref (ad 54), .ref (ad 55), .ref (ad 56), .ref (ad 57), .long an, .int wy, .int pla]) := w_ne hE23 (by omega) gOz4
                    have he26 : en24 43 = .inl (q.2.2.1, 328, .inl hFt1) := w_ne hE23 (by omega) gHz4
                    have he27 : en24 44 = .inl (q.1, 8, .inl mFt1) := w_ne hE23 (by omega) gMz4
                    have he28 : en24 45 = .inl (q.2.1, 8, .inr (.inl tFt1)) := w_ne hE23 (by omega) gTz4
                    have he29 : en24 46 = .inl (q.2.1, 20, .inr (.inl rFt1)) := w_ne hE23 (by omega) gRz4
                    have he30 : en24 47 = .inl (q.2.2.1, 328, .inl foHz2) := w_ne hE23 (by omega) goHz4
                    have he31 : en24 48 = .inl (q.1, 8, .inl foMz3) := w_ne hE23 (by omega) goMz4
                    have he32 : en24 49 = .inl (q.2.1, 8, .inr (.inl foTz3)) := w_ne hE23 (by omega) goTz4
                    have he33 : en24 50 = .inl (q.2.1, 20, .inr (.inl (vp_updL foRz4 iz4 (rFt1 iz4)))) := w_self hE23
                    have he34 : en24 51 = .inl (q.1, 10, .inl wFt1) := w_ne hE23 (by omega) gwz4
                    have he35 : en24 52 = .inl (q.1, 60, .inl sFt1) := w_ne hE23 (by omega) gsz4
                    have he36 : en24 53 = .inl (q.1, 60, .inl kFt1) := w_ne hE23 (by omega) gkz4
                    have he37 : en24 54 = .inl (q.1, 10, .inl aFt1) := w_ne hE23 (by omega) gaz4
                    have he38 : en24 55 = .inl (q.1, 10, .inl fFt1) := w_ne hE23 (by omega) gfz4
                    have he39 : en24 56 = .inl (q.1, 10, .inl xFt1) := w_ne hE23 (by omega) gxz4
                    have he40 : en24 57 = .inl (q.1, 7, .inl gFt1) := w_ne hE23 (by omega) gtz4
                    refine lv_iinc (v := nI (iz4 + 1)) (lv' := [(1, .int (nI (iz4 + 1))), (0, .ref (ad 42))]) hx hb dX3_keep_85 hl (k := 0) rfl (nI_1 iz4) (by decide) rfl (fun ls hl => ?_)
                    refine lv_goto (tgt := 67) hx hb dX3_keep_88 (by decide) ?_
                    refine ih (iz4 + 1) (by omega) _ _ (fun j hj => ?_) he25 he26 he27 he28 he29 he30 he31 he32 he33 he34 he35 he36 he37 he38 he39 he40 (fun j hj => (w_fr hE23 (by omega)).trans (hfrz4 j hj)) _ _ hw ls (lv_sub hl [0, 1] rfl)
                    · by_cases e : j = iz4
                      · rw [e, pk_uLs]
                      · rw [pk_uLn e]; exact hcoRz4 j (by omega)
              exact keyz4 20 0 rfl _ _ (fun j h => absurd h (Nat.not_lt_zero j)) gOz3 gHz3 gMz3 gTz3 gRz3 goHz3 goMz3 goTz3 goRz3 gwz3 gsz3 gkz3 gaz3 gfz3 gxz3 gtz3 (fun j hj => hfrz3 j hj) _ _ hw ls (lv_sub hl [0, 1] rfl)
            · exact absurd (Int32.le_refl _) c32
          | succ d ih =>
            intro iz3 hiz3 foMz3 foTz3 enz3 hcoMz3 hcoTz3 gOz3 gHz3 gMz3 gTz3 gRz3 goHz3 goMz3 goTz3 goRz3 gwz3 gsz3 gkz3 gaz3 gfz3 gxz3 gtz3 hfrz3 H locs hw ls hl
            refine lv_iload_n hx hb dX3_keep_29 rfl (lv_at hl 0 rfl) ?_
            refine lv_bipush (v := 8) hx hb dX3_keep_30 (by decide) ?_
            refine lv_icmp_ge (tgt := 65) hx hb dX3_keep_32 (by decide) (fun c32 => ?_) (fun c32 => ?_)
            · exact absurd ((nI_leI (a := 8) (by omega) (by omega)).mp c32) (by omega)
            · refine lv_aload_n hx hb dX3_keep_35 rfl (lv_at hl 1 rfl) ?_
              refine wr_get (ci := 4) (C := RX3) (T := TX3) (N := 21) hx hb hts iRX3 hown hw 42 (by omega) gOz3 rfl 7 (by decide) (hts (.fieldLink RX3 27 "LibraryDeskModel" "oldMade" "[I") (by decide +kernel)) (fun _ h9 => h9) rfl dX3_keep_36 ?_
              refine lv_iload_n hx hb dX3_keep_39 rfl (lv_at hl 0 rfl) ?_
              refine lv_aload_n hx hb dX3_keep_40 rfl (lv_at hl 1 rfl) ?_
              refine wr_get (ci := 4) (C := RX3) (T := TX3) (N := 21) hx hb hts iRX3 hown hw 42 (by omega) gOz3 rfl 2 (by decide) (hts (.fieldLink RX3 13 "LibraryDeskModel" "made" "[I") (by decide +kernel)) (fun _ h9 => h9) rfl dX3_keep_41 ?_
              refine lv_iload_n hx hb dX3_keep_44 rfl (lv_at hl 0 rfl) ?_
              refine wr_iald (v := mFt1 iz3) hx hb hw 44 (by omega) 0 gMz3 rfl (vp_in_nI (by omega) (by decide)) (by rw [(nI_clamp (by omega))]) dX3_keep_45 ?_
              refine wr_iast (j := iz3) hx hb hw 48 (by omega) 0 goMz3 rfl (vp_in_nI (by omega) (by decide)) (nI_clamp (by omega)) dX3_keep_46 (fun en42 H locs hE41 hw => ?_)
              have he43 : en42 42 = .inr (4, [.int th, .ref (ad 43), .ref (ad 44), .ref (ad 45), .ref (ad 46), .int (nI (aCn A)), .ref (ad 47), .ref (ad 48), .ref (ad 49), .ref (ad 50), .int (nI (aCn O)), .ref (ad 51), .ref (ad 52), .ref (ad 53), .ref (ad 54), .ref (ad 55), .ref (ad 56), .ref (ad 57), .long an, .int wy, .int pla]) := w_ne hE41 (by omega) gOz3
              have he44 : en42 43 = .inl (q.2.2.1, 328, .inl hFt1) := w_ne hE41 (by omega) gHz3
              have he45 : en42 44 = .inl (q.1, 8, .inl mFt1) := w_ne hE41 (by omega) gMz3
              have he46 : en42 45 = .inl (q.2.1, 8, .inr (.inl tFt1)) := w_ne hE41 (by omega) gTz3
              have he47 : en42 46 = .inl (q.2.1, 20, .inr (.inl rFt1)) := w_ne hE41 (by omega) gRz3
              have he48 : en42 47 = .inl (q.2.2.1, 328, .inl foHz2) := w_ne hE41 (by omega) goHz3
              have he49 : en42 48 = .inl (q.1, 8, .inl (upd foMz3 iz3 (mFt1 iz3))) := w_self hE41
              have he50 : en42 49 = .inl (q.2.1, 8, .inr (.inl foTz3)) := w_ne hE41 (by omega) goTz3
              have he51 : en42 50 = .inl (q.2.1, 20, .inr (.inl orrt1)) := w_ne hE41 (by omega) goRz3
              have he52 : en42 51 = .inl (q.1, 10, .inl wFt1) := w_ne hE41 (by omega) gwz3
              have he53 : en42 52 = .inl (q.1, 60, .inl sFt1) := w_ne hE41 (by omega) gsz3
              have he54 : en42 53 = .inl (q.1, 60, .inl kFt1) := w_ne hE41 (by omega) gkz3
              have he55 : en42 54 = .inl (q.1, 10, .inl aFt1) := w_ne hE41 (by omega) gaz3
              have he56 : en42 55 = .inl (q.1, 10, .inl fFt1) := w_ne hE41 (by omega) gfz3
              have he57 : en42 56 = .inl (q.1, 10, .inl xFt1) := w_ne hE41 (by omega) gxz3
              have he58 : en42 57 = .inl (q.1, 7, .inl gFt1) := w_ne hE41 (by omega) gtz3
              refine lv_aload_n hx hb dX3_keep_47 rfl (lv_at hl 1 rfl) ?_
              refine wr_get (ci := 4) (C := RX3) (T := TX3) (N := 21) hx hb hts iRX3 hown hw 42 (by omega) he43 rfl 8 (by decide) (hts (.fieldLink RX3 30 "LibraryDeskModel" "oldTallies" "[J") (by decide +kernel)) (fun _ h9 => h9) rfl dX3_keep_48 ?_
              refine lv_iload_n hx hb dX3_keep_51 rfl (lv_at hl 0 rfl) ?_
              refine lv_aload_n hx hb dX3_keep_52 rfl (lv_at hl 1 rfl) ?_
              refine wr_get (ci := 4) (C := RX3) (T := TX3) (N := 21) hx hb hts iRX3 hown hw 42 (by omega) he43 rfl 3 (by decide) (hts (.fieldLink RX3 17 "LibraryDeskModel" "tallies" "[J") (by decide +kernel)) (fun _ h9 => h9) rfl dX3_keep_53 ?_
              refine lv_iload_n hx hb dX3_keep_56 rfl (lv_at hl 0 rfl) ?_
              refine wr_lald (v := tFt1 iz3) hx hb hw 45 (by omega) 1 he46 rfl (vp_in_nI (by omega) (by decide)) (by rw [(nI_clamp (by omega))]) dX3_keep_57 ?_
              refine wr_last (j := iz3) hx hb hw 49 (by omega) 1 he50 rfl (vp_in_nI (by omega) (by decide)) (nI_clamp (by omega)) dX3_keep_58 (fun en60 H locs hE59 hw => ?_)
              have he61 : en60 42 = .inr (4, [.int th, .ref (ad 43), .ref (ad 44), .ref (ad 45), .ref (ad 46), .int (nI (aCn A)), .ref (ad 47), .ref (ad 48), .ref (ad 49), .ref (ad 50), .int (nI (aCn O)), .ref (ad 51), .ref (ad 52), .ref (ad 53), .ref (ad 54), .ref (ad 55), .ref (ad 56), .ref (ad 57), .long an, .int wy, .int pla]) := w_ne hE59 (by omega) he43
              have he62 : en60 43 = .inl (q.2.2.1, 328, .inl hFt1) := w_ne hE59 (by omega) he44
              have he63 : en60 44 = .inl (q.1, 8, .inl mFt1) := w_ne hE59 (by omega) he45
              have he64 : en60 45 = .inl (q.2.1, 8, .inr (.inl tFt1)) := w_ne hE59 (by omega) he46
              have he65 : en60 46 = .inl (q.2.1, 20, .inr (.inl rFt1)) := w_ne hE59 (by omega) he47
              have he66 : en60 47 = .inl (q.2.2.1, 328, .inl foHz2) := w_ne hE59 (by omega) he48
              have he67 : en60 48 = .inl (q.1, 8, .inl (upd foMz3 iz3 (mFt1 iz3))) := w_ne hE59 (by omega) he49
              have he68 : en60 49 = .inl (q.2.1, 8, .inr (.inl (vp_updL foTz3 iz3 (tFt1 iz3)))) := w_self hE59
              have he69 : en60 50 = .inl (q.2.1, 20, .inr (.inl orrt1)) := w_ne hE59 (by omega) he51
              have he70 : en60 51 = .inl (q.1, 10, .inl wFt1) := w_ne hE59 (by omega) he52
              have he71 : en60 52 = .inl (q.1, 60, .inl sFt1) := w_ne hE59 (by omega) he53
              have he72 : en60 53 = .inl (q.1, 60, .inl kFt1) := w_ne hE59 (by omega) he54
              have he73 : en60 54 = .inl (q.1, 10, .inl aFt1) := w_ne hE59 (by omega) he55
              have he74 : en60 55 = .inl (q.1, 10, .inl fFt1) := w_ne hE59 (by omega) he56
              have he75 : en60 56 = .inl (q.1, 10, .inl xFt1) := w_ne hE59 (by omega) he57
              have he76 : en60 57 = .inl (q.1, 7, .inl gFt1) := w_ne hE59 (by omega) he58
              refine lv_iinc (v := nI (iz3 + 1)) (lv' := [(1, .int (nI (iz3 + 1))), (0, .ref (ad 42))]) hx hb dX3_keep_59 hl (k := 0) rfl (nI_1 iz3) (by decide) rfl (fun ls hl => ?_)
              refine lv_goto (tgt := 29) hx hb dX3_keep_62 (by decide) ?_
              refine ih (iz3 + 1) (by omega) _ _ _ (fun j hj => ?_) (fun j hj => ?_) he61 he62 he63 he64 he65 he66 he67 he68 he69 he70 he71 he72 he73 he74 he75 he76 (fun j hj => (w_fr hE59 (by omega)).trans ((w_fr hE41 (by omega)).trans (hfrz3 j hj))) _ _ hw ls (lv_sub hl [0, 1] rfl)
              · by_cases e : j = iz3
                · rw [e, pk_us]
                · rw [pk_un e]; exact hcoMz3 j (by omega)
              · by_cases e : j = iz3
                · rw [e, pk_uLs]
                · rw [pk_uLn e]; exact hcoTz3 j (by omega)
        exact keyz3 8 0 rfl _ _ _ (fun j h => absurd h (Nat.not_lt_zero j)) (fun j h => absurd h (Nat.not_lt_zero j)) gOz2 gHz2 gMz2 gTz2 gRz2 goHz2 goMz2 goTz2 goRz2 gwz2 gsz2 gkz2 gaz2 gfz2 gxz2 gtz2 (fun j hj => hfrz2 j hj) _ _ hw ls (lv_sub hl [0, 1] rfl)
      · exact absurd (Int32.le_refl _) c6
    | succ d ih =>
      intro iz2 hiz2 foHz2 enz2 hcoHz2 gOz2 gHz2 gMz2 gTz2 gRz2 goHz2 goMz2 goTz2 goRz2 gwz2 gsz2 gkz2 gaz2 gfz2 gxz2 gtz2 hfrz2 H locs hw ls hl
      refine lv_iload_n hx hb dX3_keep_2 rfl (lv_at hl 0 rfl) ?_
      refine lv_sipush (v := 328) hx hb dX3_keep_3 (by decide) ?_
      refine lv_icmp_ge (tgt := 27) hx hb dX3_keep_6 (by decide) (fun c6 => ?_) (fun c6 => ?_)
      · exact absurd ((nI_leI (a := 328) (by omega) (by omega)).mp c6) (by omega)
      · refine lv_aload_n hx hb dX3_keep_9 rfl (lv_at hl 1 rfl) ?_
        refine wr_get (ci := 4) (C := RX3) (T := TX3) (N := 21) hx hb hts iRX3 hown hw 42 (by omega) gOz2 rfl 6 (by decide) (hts (.fieldLink RX3 24 "LibraryDeskModel" "oldHere" "[Z") (by decide +kernel)) (fun _ h9 => h9) rfl dX3_keep_10 ?_
        refine lv_iload_n hx hb dX3_keep_13 rfl (lv_at hl 0 rfl) ?_
        refine lv_aload_n hx hb dX3_keep_14 rfl (lv_at hl 1 rfl) ?_
        refine wr_get (ci := 4) (C := RX3) (T := TX3) (N := 21) hx hb hts iRX3 hown hw 42 (by omega) gOz2 rfl 1 (by decide) (hts (.fieldLink RX3 7 "LibraryDeskModel" "here" "[Z") (by decide +kernel)) (fun _ h9 => h9) rfl dX3_keep_15 ?_
        refine lv_iload_n hx hb dX3_keep_18 rfl (lv_at hl 0 rfl) ?_
        refine wr_zald (v := hFt1 iz2) hx hb hw 43 (by omega) 2 gHz2 rfl (vp_in_nI (by omega) (by decide)) (by rw [(nI_clamp (by omega))]) dX3_keep_19 ?_
        refine wr_zast (j := iz2) (y := (hFt1 iz2)) hx hb hw 47 (by omega) 2 goHz2 rfl (vp_in_nI (by omega) (by decide)) (nI_clamp (by omega)) (nar_b (hRt1.1 iz2 (by omega))) dX3_keep_20 (fun en78 H locs hE77 hw => ?_)
        have he79 : en78 42 = .inr (4, [.int th, .ref (ad 43), .ref (ad 44), .ref (ad 45), .ref (ad 46), .int (nI (aCn A)), .ref (ad 47), .ref (ad 48), .ref (ad 49), .ref (ad 50), .int (nI (aCn O)), .ref (ad 51), .ref (ad 52), .ref (ad 53), .ref (ad 54), .ref (ad 55), .ref (ad 56), .ref (ad 57), .long an, .int wy, .int pla]) := w_ne hE77 (by omega) gOz2
        have he80 : en78 43 = .inl (q.2.2.1, 328, .inl hFt1) := w_ne hE77 (by omega) gHz2
        have he81 : en78 44 = .inl (q.1, 8, .inl mFt1) := w_ne hE77 (by omega) gMz2
        have he82 : en78 45 = .inl (q.2.1, 8, .inr (.inl tFt1)) := w_ne hE77 (by omega) gTz2
        have he83 : en78 46 = .inl (q.2.1, 20, .inr (.inl rFt1)) := w_ne hE77 (by omega) gRz2
        have he84 : en78 47 = .inl (q.2.2.1, 328, .inl (upd foHz2 iz2 (hFt1 iz2))) := w_self hE77
        have he85 : en78 48 = .inl (q.1, 8, .inl omt1) := w_ne hE77 (by omega) goMz2
        have he86 : en78 49 = .inl (q.2.1, 8, .inr (.inl ott1)) := w_ne hE77 (by omega) goTz2
        have he87 : en78 50 = .inl (q.2.1, 20, .inr (.inl orrt1)) := w_ne hE77 (by omega) goRz2
        have he88 : en78 51 = .inl (q.1, 10, .inl wFt1) := w_ne hE77 (by omega) gwz2
        have he89 : en78 52 = .inl (q.1, 60, .inl sFt1) := w_ne hE77 (by omega) gsz2
        have he90 : en78 53 = .inl (q.1, 60, .inl kFt1) := w_ne hE77 (by omega) gkz2
        have he91 : en78 54 = .inl (q.1, 10, .inl aFt1) := w_ne hE77 (by omega) gaz2
        have he92 : en78 55 = .inl (q.1, 10, .inl fFt1) := w_ne hE77 (by omega) gfz2
        have he93 : en78 56 = .inl (q.1, 10, .inl xFt1) := w_ne hE77 (by omega) gxz2
        have he94 : en78 57 = .inl (q.1, 7, .inl gFt1) := w_ne hE77 (by omega) gtz2
        refine lv_iinc (v := nI (iz2 + 1)) (lv' := [(1, .int (nI (iz2 + 1))), (0, .ref (ad 42))]) hx hb dX3_keep_21 hl (k := 0) rfl (nI_1 iz2) (by decide) rfl (fun ls hl => ?_)
        refine lv_goto (tgt := 2) hx hb dX3_keep_24 (by decide) ?_
        refine ih (iz2 + 1) (by omega) _ _ (fun j hj => ?_) he79 he80 he81 he82 he83 he84 he85 he86 he87 he88 he89 he90 he91 he92 he93 he94 (fun j hj => (w_fr hE77 (by omega)).trans (hfrz2 j hj)) _ _ hw ls (lv_sub hl [0, 1] rfl)
        · by_cases e : j = iz2
          · rw [e, pk_us]
          · rw [pk_un e]; exact hcoHz2 j (by omega)
  exact keyz2 328 0 rfl _ _ (fun j h => absurd h (Nat.not_lt_zero j)) ot1 a1t1 a2t1 a3t1 a4t1 b1t1 b2t1 b3t1 b4t1 c1t1 c2t1 c3t1 c4t1 c5t1 c6t1 e1t1 (fun j hj => rfl) _ _ hw ls (lv_sub hl [0, 1] rfl)

set_option maxHeartbeats 4000000 in
set_option maxRecDepth 100000 in
theorem kX3_restore (l : Launch) (dC : Nat → ClassId) (dI : Nat → Nat → Nat) (q : ClassId × ClassId × ClassId × ClassId) (ad : Nat → Nat) (en : Nat → va_E) (n sz : Nat) (hn58 : 58 ≤ n) (th : Int32) (A O : Ast) (pl : Nat → Pst) (cs : Nat → Int32) (an : Int64) (wy pla : Int32) (hok : Aok A) (hM : ModC q ad en th A O pl cs an wy pla) (hokO : Aok O) :
    Met l yX3_restore wsX3_restore ({ frames := 0, cells := 0, slots := 0, locals := 0 }) (wPc (dC, dI) vwCl (wT q) ad en n sz [.ref (ad 42)]) (va_Qv (fun (en' : Nat → va_E) => ModC q ad en' th O O pl cs an wy pla ∧ ∀ j, (j < 42 ∨ 58 ≤ j) → en' j = en j) (wB (dC, dI) vwCl (wT q) ad n (wA ad n sz)) (wA ad n sz)) 0 0 (wA ad n sz) := by
  refine Met.ofW (cc := cX3_restore) (maxL := 2) (ret := none) (by decide) rfl ?_
  intro p e s m args below meth c s₁ B hml hv
  obtain ⟨rfl, hsz, hP, hK, hD0, hE0⟩ := hv
  have hx := B.exec
  have hb := B.bytes
  have hr := B.returns
  have hts := atoms_spec (ws := wsX3_restore) B.pre
  have hown : s.vm.findClass RX3 = some m.cls := findClass_of_methodNamed B.named
  have hlocks := B.notSynchronized
  have iRX3 : ∀ w ∈ u_ws RX3 TX3 21, w ∈ wsX3_restore := by decide +kernel
  subst hsz
  have hw := wk_of hP hK hD0 hE0
  generalize wA ad n s.heap.size = AA at hw ⊢
  have hl := lv_entry ([.ref (ad 42)]) (n := 2) (Nat.le_of_ble_eq_true rfl)
  rw [lg_entry_eq]
  generalize (lg_sl ([.ref (ad 42)]) ++ List.replicate (2 - (lg_sl ([.ref (ad 42)])).length) Slot.unset).toArray = ls at hl ⊢
  have hl : lv_has ls 2 [(0, .ref (ad 42))] := hl
  obtain ⟨ot1, ⟨hFt1, mFt1, tFt1, rFt1, a1t1, a2t1, a3t1, a4t1, hRt1⟩, ⟨oht1, omt1, ott1, orrt1, b1t1, b2t1, b3t1, b4t1, hOt1⟩, ⟨wFt1, sFt1, kFt1, aFt1, fFt1, xFt1, c1t1, c2t1, c3t1, c4t1, c5t1, c6t1, hPlt1⟩, ⟨gFt1, e1t1, hTt1⟩⟩ := id hM
  have hcn := hok.2
  have hcO := hokO.2
  refine lv_iconst (v := 0) hx hb dX3_restore_0 (by decide) ?_
  refine lv_istore_n (lv' := [(1, .int 0), (0, .ref (ad 42))]) hx hb dX3_restore_1 rfl hl (by decide) rfl (fun ls hl => ?_)
  have keyz2 : ∀ (d iz2 : Nat), iz2 + d = 328 → ∀ (fHz2 : Nat → Int32) (enz2 : Nat → va_E), (∀ j, j < iz2 → fHz2 j = oht1 j) → enz2 42 = .inr (4, [.int th, .ref (ad 43), .ref (ad 44), .ref (ad 45), .ref (ad 46), .int (nI (aCn A)), .ref (ad 47), .ref (ad 48), .ref (ad 49), .ref (ad 50), .int (nI (aCn O)), .ref (ad 51), .ref (ad 52), .ref (ad 53), .ref (ad 54), .ref (ad 55), .ref (ad 56), .ref (ad 57), .long an, .int wy, .int pla]) → enz2 43 = .inl (q.2.2.1, 328, .inl fHz2) → enz2 44 = .inl (q.1, 8, .inl mFt1) → enz2 45 = .inl (q.2.1, 8, .inr (.inl tFt1)) → enz2 46 = .inl (q.2.1, 20, .inr (.inl rFt1)) → enz2 47 = .inl (q.2.2.1, 328, .inl oht1) → enz2 48 = .inl (q.1, 8, .inl omt1) → enz2 49 = .inl (q.2.1, 8, .inr (.inl ott1)) → enz2 50 = .inl (q.2.1, 20, .inr (.inl orrt1)) → enz2 51 = .inl (q.1, 10, .inl wFt1) → enz2 52 = .inl (q.1, 60, .inl sFt1) → enz2 53 = .inl (q.1, 60, .inl kFt1) → enz2 54 = .inl (q.1, 10, .inl aFt1) → enz2 55 = .inl (q.1, 10, .inl fFt1) → enz2 56 = .inl (q.1, 10, .inl xFt1) → enz2 57 = .inl (q.1, 7, .inl gFt1) → (∀ j, (j < 42 ∨ 58 ≤ j) → enz2 j = en j) → ∀ (H : Heap) (locs : List Loc), wk (dC, dI) vwCl (wT q) ad enz2 n AA s H locs → ∀ ls : Array Slot, lv_has ls 2 [(1, .int (nI iz2)), (0, .ref (ad 42))] → W p l e (headSpec wsX3_restore ({ frames := 0, cells := 0, slots := 0, locals := 0 })).room s m ([.ref (ad 42)].toArray) below meth c H locs 0 0 (MQ below (va_Qv (fun (en' : Nat → va_E) => ModC q ad en' th O O pl cs an wy pla ∧ ∀ j, (j < 42 ∨ 58 ≤ j) → en' j = en j) (wB (dC, dI) vwCl (wT q) ad n AA) AA) ([.ref (ad 42)].toArray) s 0 0 AA) (F0 m 2 ls []) := by
    intro d
    induction d with
    | zero =>
      intro iz2 hiz2 fHz2 enz2 hcHz2 gOz2 gHz2 gMz2 gTz2 gRz2 goHz2 goMz2 goTz2 goRz2 gwz2 gsz2 gkz2 gaz2 gfz2 gxz2 gtz2 hfrz2 H locs hw ls hl
      have hi0 : iz2 = 328 := by omega
      subst hi0
      refine lv_iload_n hx hb dX3_restore_2 rfl (lv_at hl 0 rfl) ?_
      refine lv_sipush (v := 328) hx hb dX3_restore_3 (by decide) ?_
      refine lv_icmp_ge (tgt := 27) hx hb dX3_restore_6 (by decide) (fun c6 => ?_) (fun c6 => ?_)
      · refine lv_iconst (v := 0) hx hb dX3_restore_27 (by decide) ?_
        refine lv_istore_n (lv' := [(1, .int 0), (0, .ref (ad 42))]) hx hb dX3_restore_28 rfl hl (by decide) rfl (fun ls hl => ?_)
        have keyz3 : ∀ (d iz3 : Nat), iz3 + d = 8 → ∀ (fMz3 : Nat → Int32) (fTz3 : Nat → Int64) (enz3 : Nat → va_E), (∀ j, j < iz3 → fMz3 j = omt1 j) → (∀ j, j < iz3 → fTz3 j = ott1 j) → enz3 42 = .inr (4, [.int th, .ref (ad 43), .ref (ad 44), .ref (ad 45), .ref (ad 46), .int (nI (aCn A)), .ref (ad 47), .ref (ad 48), .ref (ad 49), .ref (ad 50), .int (nI (aCn O)), .ref (ad 51), .ref (ad 52), .ref (ad 53), .ref (ad 54), .ref (ad 55), .ref (ad 56), .ref (ad 57), .long an, .int wy, .int pla]) → enz3 43 = .inl (q.2.2.1, 328, .inl fHz2) → enz3 44 = .inl (q.1, 8, .inl fMz3) → enz3 45 = .inl (q.2.1, 8, .inr (.inl fTz3)) → enz3 46 = .inl (q.2.1, 20, .inr (.inl rFt1)) → enz3 47 = .inl (q.2.2.1, 328, .inl oht1) → enz3 48 = .inl (q.1, 8, .inl omt1) → enz3 49 = .inl (q.2.1, 8, .inr (.inl ott1)) → enz3 50 = .inl (q.2.1, 20, .inr (.inl orrt1)) → enz3 51 = .inl (q.1, 10, .inl wFt1) → enz3 52 = .inl (q.1, 60, .inl sFt1) → enz3 53 = .inl (q.1, 60, .inl kFt1) → enz3 54 = .inl (q.1, 10, .inl aFt1) → enz3 55 = .inl (q.1, 10, .inl fFt1) → enz3 56 = .inl (q.1, 10, .inl xFt1) → enz3 57 = .inl (q.1, 7, .inl gFt1) → (∀ j, (j < 42 ∨ 58 ≤ j) → enz3 j = en j) → ∀ (H : Heap) (locs : List Loc), wk (dC, dI) vwCl (wT q) ad enz3 n AA s H locs → ∀ ls : Array Slot, lv_has ls 2 [(1, .int (nI iz3)), (0, .ref (ad 42))] → W p l e (headSpec wsX3_restore ({ frames := 0, cells := 0, slots := 0, locals := 0 })).room s m ([.ref (ad 42)].toArray) below meth c H locs 0 0 (MQ below (va_Qv (fun (en' : Nat → va_E) => ModC q ad en' th O O pl cs an wy pla ∧ ∀ j, (j < 42 ∨ 58 ≤ j) → en' j = en j) (wB (dC, dI) vwCl (wT q) ad n AA) AA) ([.ref (ad 42)].toArray) s 0 0 AA) (F0 m 29 ls []) := by
          intro d
          induction d with
          | zero =>
            intro iz3 hiz3 fMz3 fTz3 enz3 hcMz3 hcTz3 gOz3 gHz3 gMz3 gTz3 gRz3 goHz3 goMz3 goTz3 goRz3 gwz3 gsz3 gkz3 gaz3 gfz3 gxz3 gtz3 hfrz3 H locs hw ls hl
            have hi0 : iz3 = 8 := by omega
            subst hi0
            refine lv_iload_n hx hb dX3_restore_29 rfl (lv_at hl 0 rfl) ?_
            refine lv_bipush (v := 8) hx hb dX3_restore_30 (by decide) ?_
            refine lv_icmp_ge (tgt := 65) hx hb dX3_restore_32 (by decide) (fun c32 => ?_) (fun c32 => ?_)
            · refine lv_iconst (v := 0) hx hb dX3_restore_65 (by decide) ?_
              refine lv_istore_n (lv' := [(1, .int 0), (0, .ref (ad 42))]) hx hb dX3_restore_66 rfl hl (by decide) rfl (fun ls hl => ?_)
              have keyz4 : ∀ (d iz4 : Nat), iz4 + d = 20 → ∀ (fRz4 : Nat → Int64) (enz4 : Nat → va_E), (∀ j, j < iz4 → fRz4 j = orrt1 j) → enz4 42 = .inr (4, [.int th, .ref (ad 43), .ref (ad 44), .ref (ad 45), .ref (ad 46), .int (nI (aCn A)), .ref (ad 47), .ref (ad 48), .ref (ad 49), .ref (ad 50), .int (nI (aCn O)), .ref (ad 51), .ref (ad 52), .ref (ad 53), .ref (ad 54), .ref (ad 55), .ref (ad 56), .ref (ad 57), .long an, .int wy, .int pla]) → enz4 43 = .inl (q.2.2.1, 328, .inl fHz2) → enz4 44 = .inl (q.1, 8, .inl fMz3) → enz4 45 = .inl (q.2.1, 8, .inr (.inl fTz3)) → enz4 46 = .inl (q.2.1, 20, .inr (.inl fRz4)) → enz4 47 = .inl (q.2.2.1, 328, .inl oht1) → enz4 48 = .inl (q.1, 8, .inl omt1) → enz4 49 = .inl (q.2.1, 8, .inr (.inl ott1)) → enz4 50 = .inl (q.2.1, 20, .inr (.inl orrt1)) → enz4 51 = .inl (q.1, 10, .inl wFt1) → enz4 52 = .inl (q.1, 60, .inl sFt1) → enz4 53 = .inl (q.1, 60, .inl kFt1) → enz4 54 = .inl (q.1, 10, .inl aFt1) → enz4 55 = .inl (q.1, 10, .inl fFt1) → enz4 56 = .inl (q.1, 10, .inl xFt1) → enz4 57 = .inl (q.1, 7, .inl gFt1) → (∀ j, (j < 42 ∨ 58 ≤ j) → enz4 j = en j) → ∀ (H : Heap) (locs : List Loc), wk (dC, dI) vwCl (wT q) ad enz4 n AA s H locs → ∀ ls : Array Slot, lv_has ls 2 [(1, .int (nI iz4)), (0, .ref (ad 42))] → W p l e (headSpec wsX3_restore ({ frames := 0, cells := 0, slots := 0, locals := 0 })).room s m ([.ref (ad 42)].toArray) below meth c H locs 0 0 (MQ below (va_Qv (fun (en' : Nat → va_E) => ModC q ad en' th O O pl cs an wy pla ∧ ∀ j, (j < 42 ∨ 58 ≤ j) → en' j = en j) (wB (dC, dI) vwCl (wT q) ad n AA) AA) ([.ref (ad 42)].toArray) s 0 0 AA) (F0 m 67 ls []) := by
                intro d
                induction d with
                | zero =>
                  intro iz4 hiz4 fRz4 enz4 hcRz4 gOz4 gHz4 gMz4 gTz4 gRz4 goHz4 goMz4 goTz4 goRz4 gwz4 gsz4 gkz4 gaz4 gfz4 gxz4 gtz4 hfrz4 H locs hw ls hl
                  have hi0 : iz4 = 20 := by omega
                  subst hi0
                  refine lv_iload_n hx hb dX3_restore_67 rfl (lv_at hl 0 rfl) ?_
                  refine lv_bipush (v := 20) hx hb dX3_restore_68 (by decide) ?_
                  refine lv_icmp_ge (tgt := 91) hx hb dX3_restore_70 (by decide) (fun c70 => ?_) (fun c70 => ?_)
                  · refine lv_aload_n hx hb dX3_restore_91 rfl (lv_at hl 1 rfl) ?_
                    refine lv_aload_n hx hb dX3_restore_92 rfl (lv_at hl 1 rfl) ?_
                    refine wr_get (ci := 4) (C := RX3) (T := TX3) (N := 21) hx hb hts iRX3 hown hw 42 (by omega) gOz4 rfl 10 (by decide) (hts (.fieldLink RX3 82 "LibraryDeskModel" "oldSize" "I") (by decide +kernel)) (fun _ h9 => h9) rfl dX3_restore_93 ?_
                    refine wr_put (ci := 4) (v := .int (nI (aCn O))) (ty := .int) (C := RX3) (T := TX3) (N := 21) hx hb hts iRX3 tyX3 tyX3_ok nmX3 hown hw 42 (by omega) gOz4 rfl 5 (by decide) (hts (.fieldLink RX3 61 "LibraryDeskModel" "size" "I") (by decide +kernel)) (fun _ h9 => h9) rfl (by decide +kernel) rfl rfl (Nat.le_of_ble_eq_true rfl) dX3_restore_96 (fun en6 H locs hE5 hw => ?_)
                    have he7 : en6 42 = .inr (4, [.int th, .ref (ad 43), .ref (ad 44), .ref (ad 45), .ref (ad 46), .int (nI (aCn O)), .ref (ad 47), .ref (ad 48), .ref (ad 49), .ref (ad 50), .int (nI (aCn O)), .ref (ad 51), .ref (ad 52), .ref (ad 53), .ref (ad 54), .ref (ad 55), .ref (ad 56), .ref (ad 57), .long an, .int wy, .int pla]) := w_self hE5
                    have he8 : en6 43 = .inl (q.2.2.1, 328, .inl fHz2) := w_ne hE5 (by omega) gHz4
                    have he9 : en6 44 = .inl (q.1, 8, .inl fMz3) := w_ne hE5 (by omega) gMz4
                    have he10 : en6 45 = .inl (q.2.1, 8, .inr (.inl fTz3)) := w_ne hE5 (by omega) gTz4
                    have he11 : en6 46 = .inl (q.2.1, 20, .inr (.inl fRz4)) := w_ne hE5 (by omega) gRz4
                    have he12 : en6 47 = .inl (q.2.2.1, 328, .inl oht1) := w_ne hE5 (by omega) goHz4
                    have he13 : en6 48 = .inl (q.1, 8, .inl omt1) := w_ne hE5 (by omega) goMz4
                    have he14 : en6 49 = .inl (q.2.1, 8, .inr (.inl ott1)) := w_ne hE5 (by omega) goTz4
                    have he15 : en6 50 = .inl (q.2.1, 20, .inr (.inl orrt1)) := w_ne hE5 (by omega) goRz4
                    have he16 : en6 51 = .inl (q.1, 10, .inl wFt1) := w_ne hE5 (by omega) gwz4
                    have he17 : en6 52 = .inl (q.1, 60, .inl sFt1) := w_ne hE5 (by omega) gsz4
                    have he18 : en6 53 = .inl (q.1, 60, .inl kFt1) := w_ne hE5 (by omega) gkz4
                    have he19 : en6 54 = .inl (q.1, 10, .inl aFt1) := w_ne hE5 (by omega) gaz4
                    have he20 : en6 55 = .inl (q.1, 10, .inl fFt1) := w_ne hE5 (by omega) gfz4
                    have he21 : en6 56 = .inl (q.1, 10, .inl xFt1) := w_ne hE5 (by omega) gxz4
                    have he22 : en6 57 = .inl (q.1, 7, .inl gFt1) := w_ne hE5 (by omega) gtz4
                    refine we_v hx hb hr hlocks hw ?_ dX3_restore_99
                    exact ⟨⟨he7, ⟨_, _, _, _, he8, he9, he10, he11, RM_congr hOt1 hcO (fun i hi => hcHz2 i hi) (fun i hi => hcMz3 i hi) (fun i hi => hcTz3 i hi) (fun i hi => hcRz4 i hi)⟩, ⟨_, _, _, _, he12, he13, he14, he15, hOt1⟩, ⟨_, _, _, _, _, _, he16, he17, he18, he19, he20, he21, hPlt1⟩, ⟨_, he22, hTt1⟩⟩, fun j hj => (w_fr hE5 (by omega)).trans (hfrz4 j hj)⟩
                  · exact absurd (Int32.le_refl _) c70
                | succ d ih =>
                  intro iz4 hiz4 fRz4 enz4 hcRz4 gOz4 gHz4 gMz4 gTz4 gRz4 goHz4 goMz4 goTz4 goRz4 gwz4 gsz4 gkz4 gaz4 gfz4 gxz4 gtz4 hfrz4 H locs hw ls hl
                  refine lv_iload_n hx hb dX3_restore_67 rfl (lv_at hl 0 rfl) ?_
                  refine lv_bipush (v := 20) hx hb dX3_restore_68 (by decide) ?_
                  refine lv_icmp_ge (tgt := 91) hx hb dX3_restore_70 (by decide) (fun c70 => ?_) (fun c70 => ?_)
                  · exact absurd ((nI_leI (a := 20) (by omega) (by omega)).mp c70) (by omega)
                  · refine lv_aload_n hx hb dX3_restore_73 rfl (lv_at hl 1 rfl) ?_
                    refine wr_get (ci := 4) (C := RX3) (T := TX3) (N := 21) hx hb hts iRX3 hown hw 42 (by omega) gOz4 rfl 4 (by decide) (hts (.fieldLink RX3 21 "LibraryDeskModel" "row" "[J") (by decide +kernel)) (fun _ h9 => h9) rfl dX3_restore_74 ?_
                    refine lv_iload_n hx hb dX3_restore_77 rfl (lv_at hl 0 rfl) ?_
                    refine lv_aload_n hx hb dX3_restore_78 rfl (lv_at hl 1 rfl) ?_
                    refine wr_get (ci := 4) (C := RX3) (T := TX3) (N := 21) hx hb hts iRX3 hown hw 42 (by omega) gOz4 rfl 9 (by decide) (hts (.fieldLink RX3 33 "LibraryDeskModel" "oldRow" "[J") (by decide +kernel)) (fun _ h9 => h9) rfl dX3_restore_79 ?_
                    refine lv_iload_n hx hb dX3_restore_82 rfl (lv_at hl 0 rfl) ?_
                    refine wr_lald (v := orrt1 iz4) hx hb hw 50 (by omega) 1 goRz4 rfl (vp_in_nI (by omega) (by decide)) (by rw [(nI_clamp (by omega))]) dX3_restore_83 ?_
                    refine wr_last (j := iz4) hx hb hw 46 (by omega) 1 gRz4 rfl (vp_in_nI (by omega) (by decide)) (nI_clamp (by omega)) dX3_restore_84 (fun en24 H locs hE23 hw => ?_)
                    have he25 : en24 42 = .inr (4, [.int th, .ref (ad 43), .ref (ad 44), .ref (ad 45), .ref (ad 46), .int (nI (aCn A)), .ref (ad 47), .ref (ad 48), .ref (ad 49), .ref (ad 50), .int (nI (aCn O)), .ref (ad 51), .ref (ad 52), .ref (ad 53), .ref (ad 54), .ref (ad 55), .ref (ad 56), .ref (ad 57), .long an, .int wy, .int pla]) := w_ne hE23 (by omega) gOz4
                    have he26 : en24 43 = .inl (q.2.2.1, 328, .inl fHz2) := w_ne hE23 (by omega) gHz4
                    have he27 : en24 44 = .inl (q.1, 8, .inl fMz3) := w_ne hE23 (by omega) gMz4
                    have he28 : en24 45 = .inl (q.2.1, 8, .inr (.inl fTz3)) := w_ne hE23 (by omega) gTz4
                    have he29 : en24 46 = .inl (q.2.1, 20, .inr (.inl (vp_updL fRz4 iz4 (orrt1 iz4)))) := w_self hE23
                    have he30 : en24 47 = .inl (q.2.2.1, 328, .inl oht1) := w_ne hE23 (by omega) goHz4
                    have he31 : en24 48 = .inl (q.1, 8, .inl omt1) := w_ne hE23 (by omega) goMz4
                    have he32 : en24 49 = .inl (q.2.1, 8, .inr (.inl ott1)) := w_ne hE23 (by omega) goTz4
                    have he33 : en24 50 = .inl (q.2.1, 20, .inr (.inl orrt1)) := w_ne hE23 (by omega) goRz4
                    have he34 : en24 51 = .inl (q.1, 10, .inl wFt1) := w_ne hE23 (by omega) gwz4
                    have he35 : en24 52 = .inl (q.1, 60, .inl sFt1) := w_ne hE23 (by omega) gsz4
                    have he36 : en24 53 = .inl (q.1, 60, .inl kFt1) := w_ne hE23 (by omega) gkz4
                    have he37 : en24 54 = .inl (q.1, 10, .inl aFt1) := w_ne hE23 (by omega) gaz4
                    have he38 : en24 55 = .inl (q.1, 10, .inl fFt1) := w_ne hE23 (by omega) gfz4
                    have he39 : en24 56 = .inl (q.1, 10, .inl xFt1) := w_ne hE23 (by omega) gxz4
                    have he40 : en24 57 = .inl (q.1, 7, .inl gFt1) := w_ne hE23 (by omega) gtz4
                    refine lv_iinc (v := nI (iz4 + 1)) (lv' := [(1, .int (nI (iz4 + 1))), (0, .ref (ad 42))]) hx hb dX3_restore_85 hl (k := 0) rfl (nI_1 iz4) (by decide) rfl (fun ls hl => ?_)
                    refine lv_goto (tgt := 67) hx hb dX3_restore_88 (by decide) ?_
                    refine ih (iz4 + 1) (by omega) _ _ (fun j hj => ?_) he25 he26 he27 he28 he29 he30 he31 he32 he33 he34 he35 he36 he37 he38 he39 he40 (fun j hj => (w_fr hE23 (by omega)).trans (hfrz4 j hj)) _ _ hw ls (lv_sub hl [0, 1] rfl)
                    · by_cases e : j = iz4
                      · rw [e, pk_uLs]
                      · rw [pk_uLn e]; exact hcRz4 j (by omega)
              exact keyz4 20 0 rfl _ _ (fun j h => absurd h (Nat.not_lt_zero j)) gOz3 gHz3 gMz3 gTz3 gRz3 goHz3 goMz3 goTz3 goRz3 gwz3 gsz3 gkz3 gaz3 gfz3 gxz3 gtz3 (fun j hj => hfrz3 j hj) _ _ hw ls (lv_sub hl [0, 1] rfl)
            · exact absurd (Int32.le_refl _) c32
          | succ d ih =>
            intro iz3 hiz3 fMz3 fTz3 enz3 hcMz3 hcTz3 gOz3 gHz3 gMz3 gTz3 gRz3 goHz3 goMz3 goTz3 goRz3 gwz3 gsz3 gkz3 gaz3 gfz3 gxz3 gtz3 hfrz3 H locs hw ls hl
            refine lv_iload_n hx hb dX3_restore_29 rfl (lv_at hl 0 rfl) ?_
            refine lv_bipush (v := 8) hx hb dX3_restore_30 (by decide) ?_
            refine lv_icmp_ge (tgt := 65) hx hb dX3_restore_32 (by decide) (fun c32 => ?_) (fun c32 => ?_)
            · exact absurd ((nI_leI (a := 8) (by omega) (by omega)).mp c32) (by omega)
            · refine lv_aload_n hx hb dX3_restore_35 rfl (lv_at hl 1 rfl) ?_
              refine wr_get (ci := 4) (C := RX3) (T := TX3) (N := 21) hx hb hts iRX3 hown hw 42 (by omega) gOz3 rfl 2 (by decide) (hts (.fieldLink RX3 13 "LibraryDeskModel" "made" "[I") (by decide +kernel)) (fun _ h9 => h9) rfl dX3_restore_36 ?_
              refine lv_iload_n hx hb dX3_restore_39 rfl (lv_at hl 0 rfl) ?_
              refine lv_aload_n hx hb dX3_restore_40 rfl (lv_at hl 1 rfl) ?_
              refine wr_get (ci := 4) (C := RX3) (T := TX3) (N := 21) hx hb hts iRX3 hown hw 42 (by omega) gOz3 rfl 7 (by decide) (hts (.fieldLink RX3 27 "LibraryDeskModel" "oldMade" "[I") (by decide +kernel)) (fun _ h9 => h9) rfl dX3_restore_41 ?_
              refine lv_iload_n hx hb dX3_restore_44 rfl (lv_at hl 0 rfl) ?_
              refine wr_iald (v := omt1 iz3) hx hb hw 48 (by omega) 0 goMz3 rfl (vp_in_nI (by omega) (by decide)) (by rw [(nI_clamp (by omega))]) dX3_restore_45 ?_
              refine wr_iast (j := iz3) hx hb hw 44 (by omega) 0 gMz3 rfl (vp_in_nI (by omega) (by decide)) (nI_clamp (by omega)) dX3_restore_46 (fun en42 H locs hE41 hw => ?_)
              have he43 : en42 42 = .inr (4, [.int th, .ref (ad 43), .ref (ad 44), .ref (ad 45), .ref (ad 46), .int (nI (aCn A)), .ref (ad 47), .ref (ad 48), .ref (ad 49), .ref (ad 50), .int (nI (aCn O)), .ref (ad 51), .ref (ad 52), .ref (ad 53), .ref (ad 54), .ref (ad 55), .ref (ad 56), .ref (ad 57), .long an, .int wy, .int pla]) := w_ne hE41 (by omega) gOz3
              have he44 : en42 43 = .inl (q.2.2.1, 328, .inl fHz2) := w_ne hE41 (by omega) gHz3
              have he45 : en42 44 = .inl (q.1, 8, .inl (upd fMz3 iz3 (omt1 iz3))) := w_self hE41
              have he46 : en42 45 = .inl (q.2.1, 8, .inr (.inl fTz3)) := w_ne hE41 (by omega) gTz3
              have he47 : en42 46 = .inl (q.2.1, 20, .inr (.inl rFt1)) := w_ne hE41 (by omega) gRz3
              have he48 : en42 47 = .inl (q.2.2.1, 328, .inl oht1) := w_ne hE41 (by omega) goHz3
              have he49 : en42 48 = .inl (q.1, 8, .inl omt1) := w_ne hE41 (by omega) goMz3
              have he50 : en42 49 = .inl (q.2.1, 8, .inr (.inl ott1)) := w_ne hE41 (by omega) goTz3
              have he51 : en42 50 = .inl (q.2.1, 20, .inr (.inl orrt1)) := w_ne hE41 (by omega) goRz3
              have he52 : en42 51 = .inl (q.1, 10, .inl wFt1) := w_ne hE41 (by omega) gwz3
              have he53 : en42 52 = .inl (q.1, 60, .inl sFt1) := w_ne hE41 (by omega) gsz3
              have he54 : en42 53 = .inl (q.1, 60, .inl kFt1) := w_ne hE41 (by omega) gkz3
              have he55 : en42 54 = .inl (q.1, 10, .inl aFt1) := w_ne hE41 (by omega) gaz3
              have he56 : en42 55 = .inl (q.1, 10, .inl fFt1) := w_ne hE41 (by omega) gfz3
              have he57 : en42 56 = .inl (q.1, 10, .inl xFt1) := w_ne hE41 (by omega) gxz3
              have he58 : en42 57 = .inl (q.1, 7, .inl gFt1) := w_ne hE41 (by omega) gtz3
              refine lv_aload_n hx hb dX3_restore_47 rfl (lv_at hl 1 rfl) ?_
              refine wr_get (ci := 4) (C := RX3) (T := TX3) (N := 21) hx hb hts iRX3 hown hw 42 (by omega) he43 rfl 3 (by decide) (hts (.fieldLink RX3 17 "LibraryDeskModel" "tallies" "[J") (by decide +kernel)) (fun _ h9 => h9) rfl dX3_restore_48 ?_
              refine lv_iload_n hx hb dX3_restore_51 rfl (lv_at hl 0 rfl) ?_
              refine lv_aload_n hx hb dX3_restore_52 rfl (lv_at hl 1 rfl) ?_
              refine wr_get (ci := 4) (C := RX3) (T := TX3) (N := 21) hx hb hts iRX3 hown hw 42 (by omega) he43 rfl 8 (by decide) (hts (.fieldLink RX3 30 "LibraryDeskModel" "oldTallies" "[J") (by decide +kernel)) (fun _ h9 => h9) rfl dX3_restore_53 ?_
              refine lv_iload_n hx hb dX3_restore_56 rfl (lv_at hl 0 rfl) ?_
              refine wr_lald (v := ott1 iz3) hx hb hw 49 (by omega) 1 he50 rfl (vp_in_nI (by omega) (by decide)) (by rw [(nI_clamp (by omega))]) dX3_restore_57 ?_
              refine wr_last (j := iz3) hx hb hw 45 (by omega) 1 he46 rfl (vp_in_nI (by omega) (by decide)) (nI_clamp (by omega)) dX3_restore_58 (fun en60 H locs hE59 hw => ?_)
              have he61 : en60 42 = .inr (4, [.int th, .ref (ad 43), .ref (ad 44), .ref (ad 45), .ref (ad 46), .int (nI (aCn A)), .ref (ad 47), .ref (ad 48), .ref (ad 49), .ref (ad 50), .int (nI (aCn O)), .ref (ad 51), .ref (ad 52), .ref (ad 53), .ref (ad 54), .ref (ad 55), .ref (ad 56), .ref (ad 57), .long an, .int wy, .int pla]) := w_ne hE59 (by omega) he43
              have he62 : en60 43 = .inl (q.2.2.1, 328, .inl fHz2) := w_ne hE59 (by omega) he44
              have he63 : en60 44 = .inl (q.1, 8, .inl (upd fMz3 iz3 (omt1 iz3))) := w_ne hE59 (by omega) he45
              have he64 : en60 45 = .inl (q.2.1, 8, .inr (.inl (vp_updL fTz3 iz3 (ott1 iz3)))) := w_self hE59
              have he65 : en60 46 = .inl (q.2.1, 20, .inr (.inl rFt1)) := w_ne hE59 (by omega) he47
              have he66 : en60 47 = .inl (q.2.2.1, 328, .inl oht1) := w_ne hE59 (by omega) he48
              have he67 : en60 48 = .inl (q.1, 8, .inl omt1) := w_ne hE59 (by omega) he49
              have he68 : en60 49 = .inl (q.2.1, 8, .inr (.inl ott1)) := w_ne hE59 (by omega) he50
              have he69 : en60 50 = .inl (q.2.1, 20, .inr (.inl orrt1)) := w_ne hE59 (by omega) he51
              have he70 : en60 51 = .inl (q.1, 10, .inl wFt1) := w_ne hE59 (by omega) he52
              have he71 : en60 52 = .inl (q.1, 60, .inl sFt1) := w_ne hE59 (by omega) he53
              have he72 : en60 53 = .inl (q.1, 60, .inl kFt1) := w_ne hE59 (by omega) he54
              have he73 : en60 54 = .inl (q.1, 10, .inl aFt1) := w_ne hE59 (by omega) he55
              have he74 : en60 55 = .inl (q.1, 10, .inl fFt1) := w_ne hE59 (by omega) he56
              have he75 : en60 56 = .inl (q.1, 10, .inl xFt1) := w_ne hE59 (by omega) he57
              have he76 : en60 57 = .inl (q.1, 7, .inl gFt1) := w_ne hE59 (by omega) he58
              refine lv_iinc (v := nI (iz3 + 1)) (lv' := [(1, .int (nI (iz3 + 1))), (0, .ref (ad 42))]) hx hb dX3_restore_59 hl (k := 0) rfl (nI_1 iz3) (by decide) rfl (fun ls hl => ?_)
              refine lv_goto (tgt := 29) hx hb dX3_restore_62 (by decide) ?_
              refine ih (iz3 + 1) (by omega) _ _ _ (fun j hj => ?_) (fun j hj => ?_) he61 he62 he63 he64 he65 he66 he67 he68 he69 he70 he71 he72 he73 he74 he75 he76 (fun j hj => (w_fr hE59 (by omega)).trans ((w_fr hE41 (by omega)).trans (hfrz3 j hj))) _ _ hw ls (lv_sub hl [0, 1] rfl)
              · by_cases e : j = iz3
                · rw [e, pk_us]
                · rw [pk_un e]; exact hcMz3 j (by omega)
              · by_cases e : j = iz3
                · rw [e, pk_uLs]
                · rw [pk_uLn e]; exact hcTz3 j (by omega)
        exact keyz3 8 0 rfl _ _ _ (fun j h => absurd h (Nat.not_lt_zero j)) (fun j h => absurd h (Nat.not_lt_zero j)) gOz2 gHz2 gMz2 gTz2 gRz2 goHz2 goMz2 goTz2 goRz2 gwz2 gsz2 gkz2 gaz2 gfz2 gxz2 gtz2 (fun j hj => hfrz2 j hj) _ _ hw ls (lv_sub hl [0, 1] rfl)
      · exact absurd (Int32.le_refl _) c6
    | succ d ih =>
      intro iz2 hiz2 fHz2 enz2 hcHz2 gOz2 gHz2 gMz2 gTz2 gRz2 goHz2 goMz2 goTz2 goRz2 gwz2 gsz2 gkz2 gaz2 gfz2 gxz2 gtz2 hfrz2 H locs hw ls hl
      refine lv_iload_n hx hb dX3_restore_2 rfl (lv_at hl 0 rfl) ?_
      refine lv_sipush (v := 328) hx hb dX3_restore_3 (by decide) ?_
      refine lv_icmp_ge (tgt := 27) hx hb dX3_restore_6 (by decide) (fun c6 => ?_) (fun c6 => ?_)
      · exact absurd ((nI_leI (a := 328) (by omega) (by omega)).mp c6) (by omega)
      · refine lv_aload_n hx hb dX3_restore_9 rfl (lv_at hl 1 rfl) ?_
        refine wr_get (ci := 4) (C := RX3) (T := TX3) (N := 21) hx hb hts iRX3 hown hw 42 (by omega) gOz2 rfl 1 (by decide) (hts (.fieldLink RX3 7 "LibraryDeskModel" "here" "[Z") (by decide +kernel)) (fun _ h9 => h9) rfl dX3_restore_10 ?_
        refine lv_iload_n hx hb dX3_restore_13 rfl (lv_at hl 0 rfl) ?_
        refine lv_aload_n hx hb dX3_restore_14 rfl (lv_at hl 1 rfl) ?_
        refine wr_get (ci := 4) (C := RX3) (T := TX3) (N := 21) hx hb hts iRX3 hown hw 42 (by omega) gOz2 rfl 6 (by decide) (hts (.fieldLink RX3 24 "LibraryDeskModel" "oldHere" "[Z") (by decide +kernel)) (fun _ h9 => h9) rfl dX3_restore_15 ?_
        refine lv_iload_n hx hb dX3_restore_18 rfl (lv_at hl 0 rfl) ?_
        refine wr_zald (v := oht1 iz2) hx hb hw 47 (by omega) 2 goHz2 rfl (vp_in_nI (by omega) (by decide)) (by rw [(nI_clamp (by omega))]) dX3_restore_19 ?_
        refine wr_zast (j := iz2) (y := (oht1 iz2)) hx hb hw 43 (by omega) 2 gHz2 rfl (vp_in_nI (by omega) (by decide)) (nI_clamp (by omega)) (nar_b (hOt1.1 iz2 (by omega))) dX3_restore_20 (fun en78 H locs hE77 hw => ?_)
        have he79 : en78 42 = .inr (4, [.int th, .ref (ad 43), .ref (ad 44), .ref (ad 45), .ref (ad 46), .int (nI (aCn A)), .ref (ad 47), .ref (ad 48), .ref (ad 49), .ref (ad 50), .int (nI (aCn O)), .ref (ad 51), .ref (ad 52), .ref (ad 53), .ref (ad 54), .ref (ad 55), .ref (ad 56), .ref (ad 57), .long an, .int wy, .int pla]) := w_ne hE77 (by omega) gOz2
        have he80 : en78 43 = .inl (q.2.2.1, 328, .inl (upd fHz2 iz2 (oht1 iz2))) := w_self hE77
        have he81 : en78 44 = .inl (q.1, 8, .inl mFt1) := w_ne hE77 (by omega) gMz2
        have he82 : en78 45 = .inl (q.2.1, 8, .inr (.inl tFt1)) := w_ne hE77 (by omega) gTz2
        have he83 : en78 46 = .inl (q.2.1, 20, .inr (.inl rFt1)) := w_ne hE77 (by omega) gRz2
        have he84 : en78 47 = .inl (q.2.2.1, 328, .inl oht1) := w_ne hE77 (by omega) goHz2
        have he85 : en78 48 = .inl (q.1, 8, .inl omt1) := w_ne hE77 (by omega) goMz2
        have he86 : en78 49 = .inl (q.2.1, 8, .inr (.inl ott1)) := w_ne hE77 (by omega) goTz2
        have he87 : en78 50 = .inl (q.2.1, 20, .inr (.inl orrt1)) := w_ne hE77 (by omega) goRz2
        have he88 : en78 51 = .inl (q.1, 10, .inl wFt1) := w_ne hE77 (by omega) gwz2
        have he89 : en78 52 = .inl (q.1, 60, .inl sFt1) := w_ne hE77 (by omega) gsz2
        have he90 : en78 53 = .inl (q.1, 60, .inl kFt1) := w_ne hE77 (by omega) gkz2
        have he91 : en78 54 = .inl (q.1, 10, .inl aFt1) := w_ne hE77 (by omega) gaz2
        have he92 : en78 55 = .inl (q.1, 10, .inl fFt1) := w_ne hE77 (by omega) gfz2
        have he93 : en78 56 = .inl (q.1, 10, .inl xFt1) := w_ne hE77 (by omega) gxz2
        have he94 : en78 57 = .inl (q.1, 7, .inl gFt1) := w_ne hE77 (by omega) gtz2
        refine lv_iinc (v := nI (iz2 + 1)) (lv' := [(1, .int (nI (iz2 + 1))), (0, .ref (ad 42))]) hx hb dX3_restore_21 hl (k := 0) rfl (nI_1 iz2) (by decide) rfl (fun ls hl => ?_)
        refine lv_goto (tgt := 2) hx hb dX3_restore_24 (by decide) ?_
        refine ih (iz2 + 1) (by omega) _ _ (fun j hj => ?_) he79 he80 he81 he82 he83 he84 he85 he86 he87 he88 he89 he90 he91 he92 he93 he94 (fun j hj => (w_fr hE77 (by omega)).trans (hfrz2 j hj)) _ _ hw ls (lv_sub hl [0, 1] rfl)
        · by_cases e : j = iz2
          · rw [e, pk_us]
          · rw [pk_un e]; exact hcHz2 j (by omega)
  exact keyz2 328 0 rfl _ _ (fun j h => absurd h (Nat.not_lt_zero j)) ot1 a1t1 a2t1 a3t1 a4t1 b1t1 b2t1 b3t1 b4t1 c1t1 c2t1 c3t1 c4t1 c5t1 c6t1 e1t1 (fun j hj => rfl) _ _ hw ls (lv_sub hl [0, 1] rfl)

set_option maxHeartbeats 4000000 in
set_option maxRecDepth 100000 in
theorem kX3_take (l : Launch) (dC : Nat → ClassId) (dI : Nat → Nat → Nat) (q : ClassId × ClassId × ClassId × ClassId) (ad : Nat → Nat) (en : Nat → va_E) (n sz : Nat) (hn58 : 58 ≤ n) (th : Int32) (A O : Ast) (pl : Nat → Pst) (cs : Nat → Int32) (an : Int64) (wy pla : Int32) (hok : Aok A) (hM : ModC q ad en th A O pl cs an wy pla)  (k : Nat) (hk : k < 8) (hc0 : 0 < aCn A) :
    Met l yX3_take wsX3_take ({ frames := 0, cells := 0, slots := 0, locals := 0 }) (wPc (dC, dI) vwCl (wT q) ad en n sz [.ref (ad 42), .int (nI k)]) (va_Qv (fun (en' : Nat → va_E) => ModC q ad en' th (aTake k A) O pl cs an wy pla ∧ ∀ j, (j < 42 ∨ 58 ≤ j) → en' j = en j) (wB (dC, dI) vwCl (wT q) ad n (wA ad n sz)) (wA ad n sz)) 0 0 (wA ad n sz) := by
  refine Met.ofW (cc := cX3_take) (maxL := 3) (ret := none) (by decide) rfl ?_
  intro p e s m args below meth c s₁ B hml hv
  obtain ⟨rfl, hsz, hP, hK, hD0, hE0⟩ := hv
  have hx := B.exec
  have hb := B.bytes
  have hr := B.returns
  have hts := atoms_spec (ws := wsX3_take) B.pre
  have hown : s.vm.findClass RX3 = some m.cls := findClass_of_methodNamed B.named
  have hlocks := B.notSynchronized
  have iRX3 : ∀ w ∈ u_ws RX3 TX3 21, w ∈ wsX3_take := by decide +kernel
  subst hsz
  have hw := wk_of hP hK hD0 hE0
  generalize wA ad n s.heap.size = AA at hw ⊢
  have hl := lv_entry ([.ref (ad 42), .int (nI k)]) (n := 3) (Nat.le_of_ble_eq_true rfl)
  rw [lg_entry_eq]
  generalize (lg_sl ([.ref (ad 42), .int (nI k)]) ++ List.replicate (3 - (lg_sl ([.ref (ad 42), .int (nI k)])).length) Slot.unset).toArray = ls at hl ⊢
  have hl : lv_has ls 3 [(0, .ref (ad 42)), (1, .int (nI k))] := hl
  obtain ⟨ot1, ⟨hFt1, mFt1, tFt1, rFt1, a1t1, a2t1, a3t1, a4t1, hRt1⟩, ⟨oht1, omt1, ott1, orrt1, b1t1, b2t1, b3t1, b4t1, hOt1⟩, ⟨wFt1, sFt1, kFt1, aFt1, fFt1, xFt1, c1t1, c2t1, c3t1, c4t1, c5t1, c6t1, hPlt1⟩, ⟨gFt1, e1t1, hTt1⟩⟩ := id hM
  have hcn := hok.2
  refine lv_aload_n hx hb dX3_take_0 rfl (lv_at hl 0 rfl) ?_
  refine wr_get (ci := 4) (C := RX3) (T := TX3) (N := 21) hx hb hts iRX3 hown hw 42 (by omega) ot1 rfl 3 (by decide) (hts (.fieldLink RX3 17 "LibraryDeskModel" "tallies" "[J") (by decide +kernel)) (fun _ h9 => h9) rfl dX3_take_1 ?_
  refine lv_iload_n hx hb dX3_take_4 rfl (lv_at hl 1 rfl) ?_
  refine lv_dup2_11 hx hb dX3_take_5 rfl rfl ?_
  refine wr_lald (v := tFt1 k) hx hb hw 45 (by omega) 1 a3t1 rfl (vp_in_nI (by omega) (by decide)) (by rw [(nI_clamp (by omega))]) dX3_take_6 ?_
  refine lv_aload_n hx hb dX3_take_7 rfl (lv_at hl 0 rfl) ?_
  refine wr_get (ci := 4) (C := RX3) (T := TX3) (N := 21) hx hb hts iRX3 hown hw 42 (by omega) ot1 rfl 4 (by decide) (hts (.fieldLink RX3 21 "LibraryDeskModel" "row" "[J") (by decide +kernel)) (fun _ h9 => h9) rfl dX3_take_8 ?_
  refine lv_iconst (v := 0) hx hb dX3_take_11 (by decide) ?_
  refine wr_lald (v := rFt1 0) hx hb hw 46 (by omega) 1 a4t1 rfl (vp_in_nI (n := 0) (by decide) (by decide)) (by rw [(show (0 : Int32).toNatClampNeg = 0 by decide)]) dX3_take_12 ?_
  refine lv_ladd hx hb dX3_take_13 ?_
  refine lv_topl (fun x2 ex2 => ?_)
  have ex2n : x2 = tFt1 k + rFt1 0 := ex2.trans (rfl)
  clear ex2
  subst ex2n
  refine wr_last (j := k) hx hb hw 45 (by omega) 1 a3t1 rfl (vp_in_nI (by omega) (by decide)) (nI_clamp (by omega)) dX3_take_14 (fun en4 H locs hE3 hw => ?_)
  have he5 : en4 42 = .inr (4, [.int th, .ref (ad 43), .ref (ad 44), .ref (ad 45), .ref (ad 46), .int (nI (aCn A)), .ref (ad 47), .ref (ad 48), .ref (ad 49), .ref (ad 50), .int (nI (aCn O)), .ref (ad 51), .ref (ad 52), .ref (ad 53), .ref (ad 54), .ref (ad 55), .ref (ad 56), .ref (ad 57), .long an, .int wy, .int pla]) := w_ne hE3 (by omega) ot1
  have he6 : en4 43 = .inl (q.2.2.1, 328, .inl hFt1) := w_ne hE3 (by omega) a1t1
  have he7 : en4 44 = .inl (q.1, 8, .inl mFt1) := w_ne hE3 (by omega) a2t1
  have he8 : en4 45 = .inl (q.2.1, 8, .inr (.inl (vp_updL tFt1 k (tFt1 k + rFt1 0)))) := w_self hE3
  have he9 : en4 46 = .inl (q.2.1, 20, .inr (.inl rFt1)) := w_ne hE3 (by omega) a4t1
  have he10 : en4 47 = .inl (q.2.2.1, 328, .inl oht1) := w_ne hE3 (by omega) b1t1
  have he11 : en4 48 = .inl (q.1, 8, .inl omt1) := w_ne hE3 (by omega) b2t1
  have he12 : en4 49 = .inl (q.2.1, 8, .inr (.inl ott1)) := w_ne hE3 (by omega) b3t1
  have he13 : en4 50 = .inl (q.2.1, 20, .inr (.inl orrt1)) := w_ne hE3 (by omega) b4t1
  have he14 : en4 51 = .inl (q.1, 10, .inl wFt1) := w_ne hE3 (by omega) c1t1
  have he15 : en4 52 = .inl (q.1, 60, .inl sFt1) := w_ne hE3 (by omega) c2t1
  have he16 : en4 53 = .inl (q.1, 60, .inl kFt1) := w_ne hE3 (by omega) c3t1
  have he17 : en4 54 = .inl (q.1, 10, .inl aFt1) := w_ne hE3 (by omega) c4t1
  have he18 : en4 55 = .inl (q.1, 10, .inl fFt1) := w_ne hE3 (by omega) c5t1
  have he19 : en4 56 = .inl (q.1, 10, .inl xFt1) := w_ne hE3 (by omega) c6t1
  have he20 : en4 57 = .inl (q.1, 7, .inl gFt1) := w_ne hE3 (by omega) e1t1
  refine lv_aload_n hx hb dX3_take_15 rfl (lv_at hl 0 rfl) ?_
  refine lv_dup hx hb dX3_take_16 rfl ?_
  refine wr_get (ci := 4) (C := RX3) (T := TX3) (N := 21) hx hb hts iRX3 hown hw 42 (by omega) he5 rfl 5 (by decide) (hts (.fieldLink RX3 61 "LibraryDeskModel" "size" "I") (by decide +kernel)) (fun _ h9 => h9) rfl dX3_take_17 ?_
  refine lv_iconst (v := 1) hx hb dX3_take_20 (by decide) ?_
  refine lv_isub hx hb dX3_take_21 ?_
  refine lv_topi (fun x21 ex21 => ?_)
  have ex21n : x21 = nI (aCn A - 1) := ex21.trans (pk_sub (b := 1) (by omega))
  clear ex21
  subst ex21n
  refine wr_put (ci := 4) (v := .int (nI (aCn A - 1))) (ty := .int) (C := RX3) (T := TX3) (N := 21) hx hb hts iRX3 tyX3 tyX3_ok nmX3 hown hw 42 (by omega) he5 rfl 5 (by decide) (hts (.fieldLink RX3 61 "LibraryDeskModel" "size" "I") (by decide +kernel)) (fun _ h9 => h9) rfl (by decide +kernel) rfl rfl (Nat.le_of_ble_eq_true rfl) dX3_take_22 (fun en23 H locs hE22 hw => ?_)
  have he24 : en23 42 = .inr (4, [.int th, .ref (ad 43), .ref (ad 44), .ref (ad 45), .ref (ad 46), .int (nI (aCn A - 1)), .ref (ad 47), .ref (ad 48), .ref (ad 49), .ref (ad 50), .int (nI (aCn O)), .ref (ad 51), .ref (ad 52), .ref (ad 53), .ref (ad 54), .ref (ad 55), .ref (ad 56), .ref (ad 57), .long an, .int wy, .int pla]) := w_self hE22
  have he25 : en23 43 = .inl (q.2.2.1, 328, .inl hFt1) := w_ne hE22 (by omega) he6
  have he26 : en23 44 = .inl (q.1, 8, .inl mFt1) := w_ne hE22 (by omega) he7
  have he27 : en23 45 = .inl (q.2.1, 8, .inr (.inl (vp_updL tFt1 k (tFt1 k + rFt1 0)))) := w_ne hE22 (by omega) he8
  have he28 : en23 46 = .inl (q.2.1, 20, .inr (.inl rFt1)) := w_ne hE22 (by omega) he9
  have he29 : en23 47 = .inl (q.2.2.1, 328, .inl oht1) := w_ne hE22 (by omega) he10
  have he30 : en23 48 = .inl (q.1, 8, .inl omt1) := w_ne hE22 (by omega) he11
  have he31 : en23 49 = .inl (q.2.1, 8, .inr (.inl ott1)) := w_ne hE22 (by omega) he12
  have he32 : en23 50 = .inl (q.2.1, 20, .inr (.inl orrt1)) := w_ne hE22 (by omega) he13
  have he33 : en23 51 = .inl (q.1, 10, .inl wFt1) := w_ne hE22 (by omega) he14
  have he34 : en23 52 = .inl (q.1, 60, .inl sFt1) := w_ne hE22 (by omega) he15
  have he35 : en23 53 = .inl (q.1, 60, .inl kFt1) := w_ne hE22 (by omega) he16
  have he36 : en23 54 = .inl (q.1, 10, .inl aFt1) := w_ne hE22 (by omega) he17
  have he37 : en23 55 = .inl (q.1, 10, .inl fFt1) := w_ne hE22 (by omega) he18
  have he38 : en23 56 = .inl (q.1, 10, .inl xFt1) := w_ne hE22 (by omega) he19
  have he39 : en23 57 = .inl (q.1, 7, .inl gFt1) := w_ne hE22 (by omega) he20
  refine lv_iconst (v := 0) hx hb dX3_take_25 (by decide) ?_
  refine lv_istore_n (lv' := [(2, .int 0), (0, .ref (ad 42)), (1, .int (nI k))]) hx hb dX3_take_26 rfl hl (by decide) rfl (fun ls hl => ?_)
  have key : ∀ (d i : Nat), i + d = aCn A - 1 → ∀ (wf : Nat → Int64) (en1 : Nat → va_E), (∀ j, j < i → wf j = rFt1 (j + 1)) → (∀ j, i ≤ j → wf j = rFt1 j) → en1 42 = .inr (4, [.int th, .ref (ad 43), .ref (ad 44), .ref (ad 45), .ref (ad 46), .int (nI (aCn A - 1)), .ref (ad 47), .ref (ad 48), .ref (ad 49), .ref (ad 50), .int (nI (aCn O)), .ref (ad 51), .ref (ad 52), .ref (ad 53), .ref (ad 54), .ref (ad 55), .ref (ad 56), .ref (ad 57), .long an, .int wy, .int pla]) → en1 43 = .inl (q.2.2.1, 328, .inl hFt1) → en1 44 = .inl (q.1, 8, .inl mFt1) → en1 45 = .inl (q.2.1, 8, .inr (.inl (vp_updL tFt1 k (tFt1 k + rFt1 0)))) → en1 46 = .inl (q.2.1, 20, .inr (.inl wf)) → en1 47 = .inl (q.2.2.1, 328, .inl oht1) → en1 48 = .inl (q.1, 8, .inl omt1) → en1 49 = .inl (q.2.1, 8, .inr (.inl ott1)) → en1 50 = .inl (q.2.1, 20, .inr (.inl orrt1)) → en1 51 = .inl (q.1, 10, .inl wFt1) → en1 52 = .inl (q.1, 60, .inl sFt1) → en1 53 = .inl (q.1, 60, .inl kFt1) → en1 54 = .inl (q.1, 10, .inl aFt1) → en1 55 = .inl (q.1, 10, .inl fFt1) → en1 56 = .inl (q.1, 10, .inl xFt1) → en1 57 = .inl (q.1, 7, .inl gFt1) → (∀ j, (j < 42 ∨ 58 ≤ j) → en1 j = en j) → ∀ (H : Heap) (locs : List Loc), wk (dC, dI) vwCl (wT q) ad en1 n AA s H locs → ∀ ls : Array Slot, lv_has ls 3 [(2, .int (nI i)), (0, .ref (ad 42)), (1, .int (nI k))] → W p l e (headSpec wsX3_take ({ frames := 0, cells := 0, slots := 0, locals := 0 })).room s m ([.ref (ad 42), .int (nI k)].toArray) below meth c H locs 0 0 (MQ below (va_Qv (fun (en' : Nat → va_E) => ModC q ad en' th (aTake k A) O pl cs an wy pla ∧ ∀ j, (j < 42 ∨ 58 ≤ j) → en' j = en j) (wB (dC, dI) vwCl (wT q) ad n AA) AA) ([.ref (ad 42), .int (nI k)].toArray) s 0 0 AA) (F0 m 27 ls []) := by
    intro d
    induction d with
    | zero =>
      intro i hi wf en1 hw1 hw2 gO gH gM gT gR goH goM goT goR gw gs gk ga gf gx gt hfr H locs hw ls hl
      refine lv_iload_n hx hb dX3_take_27 rfl (lv_at hl 0 rfl) ?_
      refine lv_aload_n hx hb dX3_take_28 rfl (lv_at hl 1 rfl) ?_
      refine wr_get (ci := 4) (C := RX3) (T := TX3) (N := 21) hx hb hts iRX3 hown hw 42 (by omega) gO rfl 5 (by decide) (hts (.fieldLink RX3 61 "LibraryDeskModel" "size" "I") (by decide +kernel)) (fun _ h9 => h9) rfl dX3_take_29 ?_
      refine lv_icmp_ge (tgt := 55) hx hb dX3_take_32 (by decide) (fun c32 => ?_) (fun c32 => ?_)
      · refine we_v hx hb hr hlocks hw ?_ dX3_take_55
        refine ⟨?_, fun j hj => hfr j hj⟩
        exact ⟨(by rw [aCn_take hc0]; exact gO), ⟨_, _, _, _, gH, gM, gT, gR, RM_take hRt1 hc0 hk (fun j hj => hw1 j (by omega))⟩, ⟨_, _, _, _, goH, goM, goT, goR, hOt1⟩, ⟨_, _, _, _, _, _, gw, gs, gk, ga, gf, gx, hPlt1⟩, ⟨_, gt, hTt1⟩⟩
      · exact absurd (nI_le (by omega) (by omega)) c32
    | succ d ih =>
      intro i hi wf en1 hw1 hw2 gO gH gM gT gR goH goM goT goR gw gs gk ga gf gx gt hfr H locs hw ls hl
      refine lv_iload_n hx hb dX3_take_27 rfl (lv_at hl 0 rfl) ?_
      refine lv_aload_n hx hb dX3_take_28 rfl (lv_at hl 1 rfl) ?_
      refine wr_get (ci := 4) (C := RX3) (T := TX3) (N := 21) hx hb hts iRX3 hown hw 42 (by omega) gO rfl 5 (by decide) (hts (.fieldLink RX3 61 "LibraryDeskModel" "size" "I") (by decide +kernel)) (fun _ h9 => h9) rfl dX3_take_29 ?_
      refine lv_icmp_ge (tgt := 55) hx hb dX3_take_32 (by decide) (fun c32 => ?_) (fun c32 => ?_)
      · exact absurd ((nI_leI (by omega) (by omega)).mp c32) (by omega)
      · refine lv_aload_n hx hb dX3_take_35 rfl (lv_at hl 1 rfl) ?_
        refine wr_get (ci := 4) (C := RX3) (T := TX3) (N := 21) hx hb hts iRX3 hown hw 42 (by omega) gO rfl 4 (by decide) (hts (.fieldLink RX3 21 "LibraryDeskModel" "row" "[J") (by decide +kernel)) (fun _ h9 => h9) rfl dX3_take_36 ?_
        refine lv_iload_n hx hb dX3_take_39 rfl (lv_at hl 0 rfl) ?_
        refine lv_aload_n hx hb dX3_take_40 rfl (lv_at hl 1 rfl) ?_
        refine wr_get (ci := 4) (C := RX3) (T := TX3) (N := 21) hx hb hts iRX3 hown hw 42 (by omega) gO rfl 4 (by decide) (hts (.fieldLink RX3 21 "LibraryDeskModel" "row" "[J") (by decide +kernel)) (fun _ h9 => h9) rfl dX3_take_41 ?_
        refine lv_iload_n hx hb dX3_take_44 rfl (lv_at hl 0 rfl) ?_
        refine lv_iconst (v := 1) hx hb dX3_take_45 (by decide) ?_
        refine lv_iadd hx hb dX3_take_46 ?_
        refine lv_topi (fun x40 ex40 => ?_)
        have ex40n : x40 = nI (i + 1) := ex40.trans (nI_1 i)
        clear ex40
        subst ex40n
        refine wr_lald (v := wf ((i + 1))) hx hb hw 46 (by omega) 1 gR rfl (vp_in_nI (by omega) (by decide)) (by rw [(nI_clamp (by omega))]) dX3_take_47 ?_
        refine wr_last (j := i) hx hb hw 46 (by omega) 1 gR rfl (vp_in_nI (by omega) (by decide)) (nI_clamp (by omega)) dX3_take_48 (fun en42 H locs hE41 hw => ?_)
        have he43 : en42 42 = .inr (4, [.int th, .ref (ad 43), .ref (ad 44), .ref (ad 45), .ref (ad 46), .int (nI (aCn A - 1)), .ref (ad 47), .ref (ad 48), .ref (ad 49), .ref (ad 50), .int (nI (aCn O)), .ref (ad 51), .ref (ad 52), .ref (ad 53), .ref (ad 54), .ref (ad 55), .ref (ad 56), .ref (ad 57), .long an, .int wy, .int pla]) := w_ne hE41 (by omega) gO
        have he44 : en42 43 = .inl (q.2.2.1, 328, .inl hFt1) := w_ne hE41 (by omega) gH
        have he45 : en42 44 = .inl (q.1, 8, .inl mFt1) := w_ne hE41 (by omega) gM
        have he46 : en42 45 = .inl (q.2.1, 8, .inr (.inl (vp_updL tFt1 k (tFt1 k + rFt1 0)))) := w_ne hE41 (by omega) gT
        have he47 : en42 46 = .inl (q.2.1, 20, .inr (.inl (vp_updL wf i (wf ((i + 1)))))) := w_self hE41
        have he48 : en42 47 = .inl (q.2.2.1, 328, .inl oht1) := w_ne hE41 (by omega) goH
        have he49 : en42 48 = .inl (q.1, 8, .inl omt1) := w_ne hE41 (by omega) goM
        have he50 : en42 49 = .inl (q.2.1, 8, .inr (.inl ott1)) := w_ne hE41 (by omega) goT
        have he51 : en42 50 = .inl (q.2.1, 20, .inr (.inl orrt1)) := w_ne hE41 (by omega) goR
        have he52 : en42 51 = .inl (q.1, 10, .inl wFt1) := w_ne hE41 (by omega) gw
        have he53 : en42 52 = .inl (q.1, 60, .inl sFt1) := w_ne hE41 (by omega) gs
        have he54 : en42 53 = .inl (q.1, 60, .inl kFt1) := w_ne hE41 (by omega) gk
        have he55 : en42 54 = .inl (q.1, 10, .inl aFt1) := w_ne hE41 (by omega) ga
        have he56 : en42 55 = .inl (q.1, 10, .inl fFt1) := w_ne hE41 (by omega) gf
        have he57 : en42 56 = .inl (q.1, 10, .inl xFt1) := w_ne hE41 (by omega) gx
        have he58 : en42 57 = .inl (q.1, 7, .inl gFt1) := w_ne hE41 (by omega) gt
        refine lv_iinc (v := nI (i + 1)) (lv' := [(2, .int (nI (i + 1))), (0, .ref (ad 42)), (1, .int (nI k))]) hx hb dX3_take_49 hl (k := 0) rfl (nI_1 i) (by decide) rfl (fun ls hl => ?_)
        refine lv_goto (tgt := 27) hx hb dX3_take_52 (by decide) ?_
        refine ih (i + 1) (by omega) _ _ (fun j hj => ?_) (fun j hj => ?_) he43 he44 he45 he46 he47 he48 he49 he50 he51 he52 he53 he54 he55 he56 he57 he58 (fun j hj => (w_fr hE41 (by omega)).trans (hfr j hj)) _ _ hw ls (lv_sub hl [0, 1, 2] rfl)
        · by_cases e : j = i
          · rw [e, pk_uLs]; exact hw2 _ (by omega)
          · rw [pk_uLn e]; exact hw1 j (by omega)
        · rw [pk_uLn (by omega)]; exact hw2 j (by omega)
  exact key (aCn A - 1) 0 (by omega) _ _ (fun j h => absurd h (Nat.not_lt_zero j)) (fun j _ => rfl) he24 he25 he26 he27 he28 he29 he30 he31 he32 he33 he34 he35 he36 he37 he38 he39 (fun j hj => (w_fr hE22 (by omega)).trans (w_fr hE3 (by omega))) _ _ hw ls (lv_sub hl [0, 1, 2] rfl)
