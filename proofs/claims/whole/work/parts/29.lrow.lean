/-! The law's own row: the value into out, answer 0; or the throw caught, answer 1. -/
theorem rowPc_blind (D : va_G) (cl : List vw_C) (tys : List (ClassId × FieldType)) (ad : Nat → Nat) (en : Nat → va_E) (n sz : Nat) (As : List Value) : FrameBlind (fun a U => wPc D cl tys ad en n sz As a U ∧ rOK U) := fun a U g mk h => ⟨wPc_blind D cl tys ad en n sz As a U g mk h.1, rOK_calling h.2⟩
theorem wk_kept {D : va_G} {cl : List vw_C} {tys : List (ClassId × FieldType)} {ad : Nat → Nat} {en : Nat → va_E} {n : Nat} {A : Nat → Prop} {s : State} {H H1 : Heap} {locs : List Loc} (h : wk D cl tys ad en n A s H locs) (hs : H.size ≤ H1.size) (hk : ∀ q : Nat, q < H.size → H1[q]? = H[q]?) : wk D cl tys ad en n A s H1 locs := by
  obtain ⟨h1, h2, h3, h4, h5, h6⟩ := h
  exact ⟨h1, fun k q hq => (h2 k q hq).kept (hk q.1 (h2 k q hq).lt), h3, ⟨Nat.le_trans h4.1 hs, fun q a b => (hk q (Nat.lt_of_lt_of_le a h4.1)).trans (h4.2.1 q a b), h4.2.2⟩, h5, h6⟩
def rPost (q : ClassId × ClassId × ClassId × ClassId) (en : Nat → va_E) (i : Int32) (A : Ast) : Int32 → (Nat → va_E) → Prop := fun r en' =>
  r = sRowT i A ∧ (∃ f : Nat → Int64, en' 58 = .inl (q.2.1, 1, .inr (.inl f)) ∧ (sRowT i A = 0 → f 0 = sRowR i A)) ∧ ∀ j, j ≠ 58 → en' j = en j
theorem kL_row (l : Launch) (hst : l.stackTraces = false) (dC : Nat → ClassId) (dI : Nat → Nat → Nat) (q : ClassId × ClassId × ClassId × ClassId) (ad : Nat → Nat) (en : Nat → va_E) (n sz : Nat) (hn59 : 59 ≤ n) (A : Ast) (pl : Nat → Pst) (cs : Nat → Int32) (hok : Aok A) (hD : DeskAt q ad en A pl cs) (f : Nat → Int64) (hout : en 58 = .inl (q.2.1, 1, .inr (.inl f))) (i : Int32) :
    Met l yL_row wsL_row ({ frames := 8, cells := 1, slots := 6, locals := 120 }) (fun a U => wPc (dC, dI) vwCl (wT q) ad en n sz [.ref (ad 0), .int i, .ref (ad 58)] a U ∧ rOK U) (va_Qi (rPost q en i A) (wB (dC, dI) vwCl (wT q) ad n (wA ad n sz)) (wA ad n sz)) 1 6 (wA ad n sz) := by
  refine va_MetW (cc := cL_row) (maxL := 4) (ret := some .int) (hh := [(0, 8, 11, 13)]) (by decide) rfl ?_
  intro p e s m args below meth c s₁ B hml hv
  obtain ⟨⟨rfl, hsz, hP, hK, hD0, hE0⟩, hO⟩ := hv
  have hx := B.exec
  have hb := B.bytes
  have hr := B.returns
  have hts := atoms_spec (ws := wsL_row) B.pre
  have hown : s.vm.findClass RL = some m.cls := findClass_of_methodNamed B.named
  have hlocks := B.notSynchronized
  subst hsz
  have hw := wk_of hP hK hD0 hE0
  have hAold : ∀ q : Nat, s.heap.size ≤ q → wA ad n s.heap.size q := fun q h => Or.inr h
  generalize wA ad n s.heap.size = AA at hw hAold ⊢
  have hl := lv_entry ([.ref (ad 0), .int i, .ref (ad 58)]) (n := 4) (Nat.le_of_ble_eq_true rfl)
  rw [lg_entry_eq]
  generalize (lg_sl ([.ref (ad 0), .int i, .ref (ad 58)]) ++ List.replicate (4 - (lg_sl ([.ref (ad 0), .int i, .ref (ad 58)])).length) Slot.unset).toArray = ls at hl ⊢
  have hl : lv_has ls 4 [(0, .ref (ad 0)), (1, .int i), (2, .ref (ad 58))] := hl
  have hcn := hok.2
  obtain ⟨nb, tb, Z, ta, tw, tp, hC⟩ := id hD
  have he0 := hC.2.1
  refine lv_aload_n hx hb dL_row_0 rfl (lv_at hl 2 rfl) ?_
  refine lv_iconst (v := 0) hx hb dL_row_1 (by decide) ?_
  refine lv_aload_n hx hb dL_row_2 rfl (lv_at hl 0 rfl) ?_
  refine lv_iload_n hx hb dL_row_3 rfl (lv_at hl 1 rfl) ?_
  by_cases hi : 0 ≤ i ∧ i < nI (aCn A)
  · obtain ⟨k, hk, rfl⟩ := (kd_cases i (n := aCn A) (by omega)).resolve_right (fun h => h hi)
    refine wc_l hw (va_runV (As := [.int (nI k)]) (rest := [.int 0, .ref (ad 58)]) ⟨hx, hb, hml, hown, hts⟩ (kX2_rowR l dC dI q ad en n _ (by omega) A pl cs hok hD k hk) (cwV 1 hts gL_row_X2_row rfl rfl rfl (by decide +kernel) ⟨Nat.le_of_ble_eq_true rfl, Nat.le_of_ble_eq_true rfl⟩) (wk_preV hw (by omega) he0 rfl) rfl rfl hl.1 rfl (lv_room (Nat.le_of_ble_eq_true rfl)) dL_row_4 ⟨Nat.zero_le _, Nat.zero_le _⟩) (fun r en1 H locs hp hw => ?_)
    obtain ⟨hr1, hn1⟩ := hp
    rw [hn1] at hw
    clear hn1
    subst hr1
    refine wr_last (j := 0) hx hb hw 58 (by omega) 1 hout rfl (vp_in_nI (n := 0) (by decide) (by decide)) (by decide) dL_row_7 (fun en2 H locs hE hw => ?_)
    refine lv_goto (tgt := 14) hx hb dL_row_8 (by decide) ?_
    refine lv_iconst (v := 0) hx hb dL_row_14 (by decide) ?_
    refine W.widen (k := 1) (n := 6) (Nat.zero_le _) (Nat.zero_le _) ?_
    refine we_i hx hb hr hlocks hw ?_ dL_row_15
    refine ⟨by unfold sRowT; rw [if_pos hi], ⟨_, w_self hE, fun _ => ?_⟩, fun j hj => w_fr hE hj⟩
    rw [pk_uLs]
    unfold sRowR
    rw [if_pos hi, nI_clamp (by omega)]
  · intro T hT X
    have hgood := cwV (R := (headSpec wsL_row ({ frames := 8, cells := 1, slots := 6, locals := 120 })).room) (rm := { frames := 7, cells := 1, slots := 6, locals := 99 }) 1 hts gL_row_X2_row rfl rfl rfl (by decide +kernel) ⟨Nat.le_of_ble_eq_true rfl, Nat.le_of_ble_eq_true rfl⟩
    obtain ⟨⟨-, -, hfr9, hlo9, hws9, hcm9, hcode9, hini9, hy9, hlen9, hlink9⟩, hin9, hse9⟩ := hgood
    have hpv := wk_preV (As := [.int i]) hw (by omega) he0 rfl
    obtain ⟨-, ⟨cellB, hcB, hoB, hclB⟩, hPc⟩ := hpv
    obtain ⟨mk, methM, hnamed, hmethM, hstM, habM⟩ := Cond.instanceMethod_spec hin9
    obtain ⟨methM', cM, hmethM', -, -, -, -, -, -, hsigM⟩ := Cond.code_spec hnamed hcode9
    cases hmethM.symm.trans hmethM'
    obtain ⟨c2, r2, m2, q1, q2, q3, q4, kP, hkP, hkPi⟩ := Cond.selects_spec hse9
    cases hclB.symm.trans q1
    cases (State.methodFound?_of_named hnamed hy9).symm.trans q2
    cases hnamed.symm.trans q3
    have hselP : selectMethod e.platform s.vm cellB.cls mk = .method mk := by rw [Launch.admits_selectMethod X.admits]; exact q4
    obtain ⟨vm₁, X₁, hstep₁⟩ := X.invokevirtual hx hown hlink9 hnamed hmethM hstM hkP hkPi hy9 (a := ad 0) (cell := cellB) (by rw [hT]; exact hcB)
      (fun z h => by rw [h] at hoB; cases hoB) hselP hmethM habM hkP hkPi (g := F0 m 4 ls [.int i, .ref (ad 0), .int 0, .ref (ad 58)]) rfl (argsL := [.int i]) (rest := [.int 0, .ref (ad 58)]) (hlen9 _ hsigM) rfl (by rw [hb]; exact dL_row_4)
    have hO1 : rOK (T.setVm vm₁) := rOK_move (s := s) X₁.warmed (fun q hq => by show T.heap[q]? = _; rw [hT]) hO
    obtain ⟨v, t, U', X', hU1, hU2, ⟨hv1, cell, hv2, hv3, hv4, hv5⟩, hsteps⟩ := r_back (kX2_rowT l hst dC dI q ad en n s.heap.size (by omega) A pl cs hok hD i hi) hfr9 hlo9 hws9 hcm9 (fun a' U hW => word_at hW (Or.inl rfl) hini9) X₁ (g := F0 m 4 ls [.int 0, .ref (ad 58)]) rfl (by rw [hml]; exact hl.1) (by rw [hb]; exact dL_row_4) (lv_room (Nat.le_of_ble_eq_true rfl)) (X₁.named hnamed) (a := [.ref (ad 0), .int i].toArray) (Nat.le_refl _) (Nat.le_refl _) (rowPc_blind _ _ _ _ _ _ _ _ _ _ _ _ ⟨hPc (T.setVm vm₁) hT X₁.warmed, hO1⟩)
    obtain ⟨m9, meth9, c9, hn9, hm9, hc9, -, -, hh9, -⟩ := Cond.codeWith_spec (hts _ (List.mem_cons_self : Cond.codeWith yL_row cL_row 4 (some .int) [(0, 8, 11, 13)] ∈ wsL_row))
    cases B.named.symm.trans hn9
    cases B.method.symm.trans hm9
    cases X.code.symm.trans hc9
    obtain ⟨x, hx1, hx2⟩ : ∃ x : ExceptionTableEntry, c.exceptionTable.toList = [x] ∧ x = ⟨0, 8, 11, 13⟩ := by
      generalize c.exceptionTable.toList = L at hh9
      rcases L with _ | ⟨⟨x1, x2, x3, x4⟩, _ | ⟨y, L⟩⟩
      · cases hh9
      · simp only [List.map_cons, List.map_nil, List.cons.injEq, Prod.mk.injEq, and_true] at hh9
        obtain ⟨rfl, rfl, rfl, rfl⟩ := hh9
        exact ⟨_, rfl, rfl⟩
      · simp only [List.map_cons, List.cons.injEq] at hh9
        exact absurd hh9.2 (by simp)
    subst hx2
    have hal : s.vm.Alike (T.setVm vm₁).vm := X₁.warmed.alike
    obtain ⟨vm', hW', X'', hgo⟩ := r_caught X' v (g := F0 m 4 ls [.int 0, .ref (ad 58)]) rfl hown hx1 rfl (by decide) (hO.2.2 _) (cell := cell) (cT := cell.cls) (by rw [← hal.findClass]; exact hv4) (by rw [hU1]; exact hv2) hv3 (by rw [← hal.assignable]; exact hv5)
    have hold : ∀ q : Nat, q < s.heap.size → U'.heap[q]? = s.heap[q]? := fun q hq => by
      have h1 : s.heap[q]? = some s.heap[q] := Array.getElem?_eq_getElem hq
      rw [h1]
      exact X'.same.old_cell h1
    have hw9 := wk_kept hw X'.same.2.1 hold
    have hend : W p l e (headSpec wsL_row ({ frames := 8, cells := 1, slots := 6, locals := 120 })).room s m [.ref (ad 0), .int i, .ref (ad 58)].toArray below meth c U'.heap [] (0 + 1) (0 + 6) (MQ below (va_Qi (rPost q en i A) (wB (dC, dI) vwCl (wT q) ad n AA) AA) [.ref (ad 0), .int i, .ref (ad 58)].toArray s 1 6 AA) (F0 m 11 ls [.ref v]) := by
      refine lv_astore_n (lv' := [(3, .ref v), (0, .ref (ad 0)), (1, .int i), (2, .ref (ad 58))]) hx hb dL_row_11 rfl hl (by decide) rfl (fun ls hl => ?_)
      refine lv_iconst (v := 1) hx hb dL_row_12 (by decide) ?_
      refine we_i hx hb hr hlocks hw9 ?_ dL_row_13
      have h1 : sRowT i A = 1 := by unfold sRowT; rw [if_neg hi]
      exact ⟨h1.symm, ⟨f, hout, fun h => by rw [h1] at h; exact absurd h (by decide)⟩, fun j hj => rfl⟩
    obtain ⟨t2, a1, b1⟩ := hend (U'.setVm vm') rfl X''
    exact ⟨t2, hstep₁ _ fun acts => by rw [doInvoke_state]; exact hsteps.trans (hgo _ a1), b1⟩
