/-! row: a value of the row; or the throw, where there is none. -/
theorem kX2_rowR (l : Launch) (dC : Nat → ClassId) (dI : Nat → Nat → Nat) (q : ClassId × ClassId × ClassId × ClassId) (ad : Nat → Nat) (en : Nat → va_E) (n sz : Nat) (hn42 : 42 ≤ n) (A : Ast) (pl : Nat → Pst) (cs : Nat → Int32) (hok : Aok A) (hD : DeskAt q ad en A pl cs) (k : Nat) (hk : k < aCn A) :
    Met l yX2_row wsX2_row ({ frames := 0, cells := 0, slots := 0, locals := 0 }) (wPc (dC, dI) vwCl (wT q) ad en n sz [.ref (ad 0), .int (nI k)]) (va_Ql (fun (r : Int64) (en' : Nat → va_E) => r = aRw A k ∧ en' = en) (wB (dC, dI) vwCl (wT q) ad n (wA ad n sz)) (wA ad n sz)) 0 0 (wA ad n sz) := by
  refine Met.ofW (cc := cX2_row) (maxL := 2) (ret := (some .long)) (by decide) rfl ?_
  intro p e s m args below meth c s₁ B hml hv
  obtain ⟨rfl, hsz, hP, hK, hD0, hE0⟩ := hv
  have hx := B.exec
  have hb := B.bytes
  have hr := B.returns
  have hts := atoms_spec (ws := wsX2_row) B.pre
  have hown : s.vm.findClass RX2 = some m.cls := findClass_of_methodNamed B.named
  have hlocks := B.notSynchronized
  have iRX2 : ∀ w ∈ u_ws RX2 TX2 13, w ∈ wsX2_row := by decide +kernel
  have iRX0 : ∀ w ∈ u_ws RX0 TX0 5, w ∈ wsX2_row := by decide +kernel
  subst hsz
  have hw := wk_of hP hK hD0 hE0
  generalize wA ad n s.heap.size = AA at hw ⊢
  have hl := lv_entry ([.ref (ad 0), .int (nI k)]) (n := 2) (Nat.le_of_ble_eq_true rfl)
  rw [lg_entry_eq]
  generalize (lg_sl ([.ref (ad 0), .int (nI k)]) ++ List.replicate (2 - (lg_sl ([.ref (ad 0), .int (nI k)])).length) Slot.unset).toArray = ls at hl ⊢
  have hl : lv_has ls 2 [(0, .ref (ad 0)), (1, .int (nI k))] := hl
  obtain ⟨nb, tb, Z, ta, tw, tp, hC⟩ := hD
  obtain ⟨hnt, dt1, -, -, hN, -⟩ := id hC
  obtain ⟨mft1, vht1, tft1, vft1, n0, n1, n2, n3, n4, hR⟩ := id hN
  have hcn := hok.2
  refine lv_iload_n hx hb dX2_row_0 rfl (lv_at hl 1 rfl) ?_
  refine lv_if_lt (tgt := 15) hx hb dX2_row_1 (by decide) (fun c1 => absurd c1 (Int32.not_lt.mpr (nI_pos' (by omega)))) (fun c1 => ?_)
  refine lv_iload_n hx hb dX2_row_4 rfl (lv_at hl 1 rfl) ?_
  refine lv_aload_n hx hb dX2_row_5 rfl (lv_at hl 0 rfl) ?_
  refine wr_get (ci := 3) (C := RX2) (T := TX2) (N := 13) hx hb hts iRX2 hown hw 0 (by omega) dt1 rfl 1 (by decide) (hts (.fieldLink RX2 19 "LibraryDesk" "now" "LLibraryDesk$Holdings;") (by decide +kernel)) (fun _ h9 => h9) rfl dX2_row_6 ?_
  refine wr_get (ci := 1) (C := RX0) (T := TX0) (N := 5) hx hb hts iRX0 hown hw nb (by omega) n0 rfl 4 (by decide) (hts (.fieldLink RX2 30 "LibraryDesk$Holdings" "valueCount" "I") (by decide +kernel)) (fun _ h9 => h9) rfl dX2_row_9 ?_
  refine lv_icmp_lt (tgt := 25) hx hb dX2_row_12 (by decide) (fun c12 => ?_) (fun c12 => absurd (nI_lt hk (by omega)) c12)
  refine lv_aload_n hx hb dX2_row_25 rfl (lv_at hl 0 rfl) ?_
  refine wr_get (ci := 3) (C := RX2) (T := TX2) (N := 13) hx hb hts iRX2 hown hw 0 (by omega) dt1 rfl 1 (by decide) (hts (.fieldLink RX2 19 "LibraryDesk" "now" "LLibraryDesk$Holdings;") (by decide +kernel)) (fun _ h9 => h9) rfl dX2_row_26 ?_
  refine wr_get (ci := 1) (C := RX0) (T := TX0) (N := 5) hx hb hts iRX0 hown hw nb (by omega) n0 rfl 3 (by decide) (hts (.fieldLink RX2 131 "LibraryDesk$Holdings" "values" "[J") (by decide +kernel)) (fun _ h9 => h9) rfl dX2_row_29 ?_
  refine lv_iload_n hx hb dX2_row_32 rfl (lv_at hl 1 rfl) ?_
  refine wr_lald (v := aRw A k) hx hb hw (nb + 4) (by omega) 1 n4 rfl (vp_in_nI (by omega) (by decide)) (by rw [(nI_clamp (by omega))]; exact hR.2 k hk) dX2_row_33 ?_
  refine we_l hx hb hr hlocks hw ?_ dX2_row_34
  exact ⟨rfl, rfl⟩
/-- what is known of the throw -/
def rQt : Array Value → State → Addr → State → Prop := fun _ st v t => st.heap.size ≤ v ∧ ∃ cell : Cell, t.heap[v]? = some cell ∧ cell.vm.isStatics = false ∧ st.vm.findClass RJx00060 = some cell.cls ∧ st.vm.assignable cell.cls cell.cls = true
theorem kX2_rowT (l : Launch) (hst : l.stackTraces = false) (dC : Nat → ClassId) (dI : Nat → Nat → Nat) (q : ClassId × ClassId × ClassId × ClassId) (ad : Nat → Nat) (en : Nat → va_E) (n sz : Nat) (hn42 : 42 ≤ n) (A : Ast) (pl : Nat → Pst) (cs : Nat → Int32) (hok : Aok A) (hD : DeskAt q ad en A pl cs) (i : Int32) (hi : ¬ (0 ≤ i ∧ i < nI (aCn A))) :
    MetFree l yX2_row (headSpec wsX2_row ({ frames := 7, cells := 1, slots := 6, locals := 99 })) (fun a U => wPc (dC, dI) vwCl (wT q) ad en n sz [.ref (ad 0), .int i] a U ∧ rOK U) (fun _ _ _ _ _ => True)
      (fun a st o t => ∃ v, o = .threw v ∧ st.WarmedH t.vm ∧ st.sameButNew ({ t with vm := st.vm } : State) [] 1 6 ∧ rQt a st v t) := by
  refine MetFree.of_bodyS (code := cX2_row) (maxLocals := 2) (ret := some .long) (by decide) ?_ ?_
  · intro args s m h hn
    obtain ⟨meth, c, h1, h2, h3, h4, h7, h5, h8, h6⟩ := Cond.code_spec hn (atoms_spec (ws := wsX2_row) h _ List.mem_cons_self)
    exact ⟨meth, c, h1, h2, h3, h4, by first | exact h7 | exact h8, h5⟩
  · intro p e s m args below meth c s₁ B hml hv _
    obtain ⟨⟨rfl, hsz, hP, hK, hD0, hE0⟩, hO⟩ := hv
    have hx := B.exec
    have hb := B.bytes
    have hr := B.returns
    have hts := atoms_spec (ws := wsX2_row) B.pre
    have hown : s.vm.findClass RX2 = some m.cls := findClass_of_methodNamed B.named
    have hlocks := B.notSynchronized
    have hcodeV := hts _ (List.mem_cons_self : Cond.code yX2_row cX2_row 2 (some .long) ∈ wsX2_row)
    have hnoh := B.noHandlers hcodeV
    have iRX2 : ∀ w ∈ u_ws RX2 TX2 13, w ∈ wsX2_row := by decide +kernel
    have iRX0 : ∀ w ∈ u_ws RX0 TX0 5, w ∈ wsX2_row := by decide +kernel
    subst hsz
    have hw := wk_of hP hK hD0 hE0
    generalize wA ad n s.heap.size = AA at hw
    have hl := lv_entry ([.ref (ad 0), .int i]) (n := 2) (Nat.le_of_ble_eq_true rfl)
    rw [lg_entry_eq]
    generalize (lg_sl ([.ref (ad 0), .int i]) ++ List.replicate (2 - (lg_sl ([.ref (ad 0), .int i])).length) Slot.unset).toArray = ls at hl ⊢
    have hl : lv_has ls 2 [(0, .ref (ad 0)), (1, .int i)] := hl
    obtain ⟨nb, tb, Z, ta, tw, tp, hC⟩ := hD
    obtain ⟨hnt, dt1, -, -, hN, -⟩ := id hC
    obtain ⟨mft1, vht1, tft1, vft1, n0, n1, n2, n3, n4, hR⟩ := id hN
    have hh0 : s₁.heap = s.heap := by rw [B.state]; rfl
    have X₀ := Stand.of_body B
    have htr : e.platform.stackTraces = false := by rw [X₀.admits.platform]; exact hst
    obtain ⟨hA, ⟨ms, hms⟩, -⟩ := hO
    have h15 : W p l e (headSpec wsX2_row ({ frames := 7, cells := 1, slots := 6, locals := 99 })).room s m [.ref (ad 0), .int i].toArray below meth c s.heap [] 0 0 (fun t => ∃ o, t.status = .running ∧ Ended t below o ∧ ∃ v, o = .threw v ∧ s.WarmedH t.vm ∧ s.sameButNew ({ t with vm := s.vm } : State) [] 1 6 ∧ rQt [.ref (ad 0), .int i].toArray s v t) (F0 m 15 ls []) := by
      intro T hT X
      obtain ⟨vm₁, cX, kX, hfX, hkX, -, -, X₁, st1⟩ := X.newCold hx (own := RX2) (C := RJx00060) (index := 124) (n := 6) hown (hts (.classLink RX2 124 RJx00060) (by decide +kernel)) (hts (.instantiable RJx00060 6) (by decide +kernel)) (hts (.initialized RJx00060) (by decide +kernel))
        (g := F0 m 15 ls []) rfl (by rw [hb]; exact dX2_row_15) (Nat.le_of_ble_eq_true rfl) (Nat.le_of_ble_eq_true rfl)
      generalize hT1 : (T.setVm vm₁).pushCell { cls := cX, slots := kX.instanceTypes.map defaultValue, vm := .none } = T1 at X₁ st1
      have hcellA : T1.heap[T.heap.size]? = some (freshCell cX kX) := by rw [← hT1]; exact State.heap_pushCell_size _ _
      have hgo : W p l e (headSpec wsX2_row ({ frames := 7, cells := 1, slots := 6, locals := 99 })).room s m [.ref (ad 0), .int i].toArray below meth c T1.heap [] (0 + 1) (0 + 6) (fun t => ∃ o, t.status = .running ∧ Ended t below o ∧ ∃ v, o = .threw v ∧ s.WarmedH t.vm ∧ s.sameButNew ({ t with vm := s.vm } : State) [] 1 6 ∧ rQt [.ref (ad 0), .int i].toArray s v t) (F0 m 18 ls [.ref T.heap.size]) := by
        refine lv_dup hx hb dX2_row_18 rfl ?_
        refine va_ldcS hx hb hown hms dX2_row_19 ?_
        intro T2 hT2 X2
        obtain ⟨U, hsteps, hrun, hend, hW, hsame, ce, hce, K⟩ := X2.ctorThrowS hx htr (own := RX2) (cls := RJx00060) (names := ["java/lang/IndexOutOfBoundsException", "java/lang/RuntimeException", "java/lang/Exception"]) (ic := 128) hown (by decide +kernel) (by decide +kernel)
          (fun y hy => hA _ y hy) (fun y hy => by cases hy) hfX hkX (by rw [hT2]; exact hcellA) (by rw [hT]; exact Nat.le_refl _) (msg := .ref ms) rfl
          (g := F0 m 21 ls [.ref ms, .ref T.heap.size, .ref T.heap.size]) rfl (by rw [hml]; exact hl.1) rfl rfl (rest := []) rfl
          (by rw [hb]; exact dX2_row_21) (by rw [hb]; exact dX2_row_24) (covers_of_empty hnoh _) (Nat.le_of_ble_eq_true rfl) (Nat.le_of_ble_eq_true rfl)
        exact ⟨U, hsteps, _, hrun, hend, _, rfl, hW, hsame, by rw [hT]; exact Nat.le_refl _, ce, hce, by rw [K.vm]; rfl, K.cls, K.self⟩
      obtain ⟨t, a1, b1⟩ := hgo T1 rfl X₁
      exact ⟨t, st1 t a1, b1⟩
    have hgo : W p l e (headSpec wsX2_row ({ frames := 7, cells := 1, slots := 6, locals := 99 })).room s m [.ref (ad 0), .int i].toArray below meth c s.heap [] 0 0 (fun t => ∃ o, t.status = .running ∧ Ended t below o ∧ ∃ v, o = .threw v ∧ s.WarmedH t.vm ∧ s.sameButNew ({ t with vm := s.vm } : State) [] 1 6 ∧ rQt [.ref (ad 0), .int i].toArray s v t) (F0 m 0 ls []) := by
      refine lv_iload_n hx hb dX2_row_0 rfl (lv_at hl 1 rfl) ?_
      refine lv_if_lt (tgt := 15) hx hb dX2_row_1 (by decide) (fun c1 => h15) (fun c1 => ?_)
      refine lv_iload_n hx hb dX2_row_4 rfl (lv_at hl 1 rfl) ?_
      refine lv_aload_n hx hb dX2_row_5 rfl (lv_at hl 0 rfl) ?_
      refine wr_get (ci := 3) (C := RX2) (T := TX2) (N := 13) hx hb hts iRX2 hown hw 0 (by omega) dt1 rfl 1 (by decide) (hts (.fieldLink RX2 19 "LibraryDesk" "now" "LLibraryDesk$Holdings;") (by decide +kernel)) (fun _ h9 => h9) rfl dX2_row_6 ?_
      refine wr_get (ci := 1) (C := RX0) (T := TX0) (N := 5) hx hb hts iRX0 hown hw nb (by omega) n0 rfl 4 (by decide) (hts (.fieldLink RX2 30 "LibraryDesk$Holdings" "valueCount" "I") (by decide +kernel)) (fun _ h9 => h9) rfl dX2_row_9 ?_
      exact lv_icmp_lt (tgt := 25) hx hb dX2_row_12 (by decide) (fun c12 => absurd ⟨Int32.not_lt.mp c1, c12⟩ hi) (fun c12 => h15)
    obtain ⟨t, a1, o, b1, b2, b3⟩ := hgo s₁ hh0 X₀
    exact ⟨t, o, a1, b1, b2, b3⟩
