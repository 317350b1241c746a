set_option maxHeartbeats 4000000 in
set_option maxRecDepth 100000 in
/-- X2_isKind -/
theorem kX2_isKind (l : Launch) (dC : Nat → ClassId) (dI : Nat → Nat → Nat) (q : ClassId × ClassId × ClassId × ClassId) (ad : Nat → Nat) (en : Nat → va_E) (n sz : Nat) (v : Int32) :
    Met l yX2_isKind wsX2_isKind ({ frames := 0, cells := 0, slots := 0, locals := 0 }) (wPc (dC, dI) vwCl (wT q) ad en n sz [.int v]) (va_Qi (fun (r : Int32) (en' : Nat → va_E) => r = (if 0 ≤ v ∧ v < 8 then 1 else 0) ∧ en' = en) (wB (dC, dI) vwCl (wT q) ad n (wA ad n sz)) (wA ad n sz)) 0 0 (wA ad n sz) := by
  refine Met.ofW (cc := cX2_isKind) (maxL := 1) (ret := (some .boolean)) (by decide) rfl ?_
  intro p e s m args below meth c s₁ B hml hv
  obtain ⟨rfl, hsz, hP, hK, hD0, hE0⟩ := hv
  have hx := B.exec
  have hb := B.bytes
  have hr := B.returns
  have hts := atoms_spec (ws := wsX2_isKind) B.pre
  have hown : s.vm.findClass RX2 = some m.cls := findClass_of_methodNamed B.named
  have hlocks := B.notSynchronized
  subst hsz
  have hw := wk_of hP hK hD0 hE0
  generalize wA ad n s.heap.size = AA at hw ⊢
  have hl := lv_entry ([.int v]) (n := 1) (Nat.le_of_ble_eq_true rfl)
  rw [lg_entry_eq]
  generalize (lg_sl ([.int v]) ++ List.replicate (1 - (lg_sl ([.int v])).length) Slot.unset).toArray = ls at hl ⊢
  have hl : lv_has ls 1 [(0, .int v)] := hl
  refine lv_iload_n hx hb dX2_isKind_0 rfl (lv_at hl 0 rfl) ?_
  refine lv_if_lt (tgt := 14) hx hb dX2_isKind_1 (by decide) (fun c1 => ?_) (fun c1 => ?_)
  · refine lv_iconst (v := 0) hx hb dX2_isKind_14 (by decide) ?_
    refine we_z hx hb hr hlocks hw (Or.inl rfl) ?_ dX2_isKind_15
    exact ⟨by rw [if_neg (fun h => absurd c1 (Int32.not_lt.mpr h.1))], rfl⟩
  · refine lv_iload_n hx hb dX2_isKind_4 rfl (lv_at hl 0 rfl) ?_
    refine lv_bipush (v := 8) hx hb dX2_isKind_5 (by decide) ?_
    refine lv_icmp_ge (tgt := 14) hx hb dX2_isKind_7 (by decide) (fun c7 => ?_) (fun c7 => ?_)
    · refine lv_iconst (v := 0) hx hb dX2_isKind_14 (by decide) ?_
      refine we_z hx hb hr hlocks hw (Or.inl rfl) ?_ dX2_isKind_15
      exact ⟨by rw [if_neg (fun h => absurd h.2 (Int32.not_lt.mpr c7))], rfl⟩
    · refine lv_iconst (v := 1) hx hb dX2_isKind_10 (by decide) ?_
      refine lv_goto (tgt := 15) hx hb dX2_isKind_11 (by decide) ?_
      refine we_z hx hb hr hlocks hw (Or.inr rfl) ?_ dX2_isKind_15
      exact ⟨by rw [if_pos ⟨Int32.not_lt.mp c1, Int32.not_le.mp c7⟩], rfl⟩

set_option maxHeartbeats 4000000 in
set_option maxRecDepth 100000 in
/-- X2_isCall -/
theorem kX2_isCall (l : Launch) (dC : Nat → ClassId) (dI : Nat → Nat → Nat) (q : ClassId × ClassId × ClassId × ClassId) (ad : Nat → Nat) (en : Nat → va_E) (n sz : Nat) (v : Int32) :
    Met l yX2_isCall wsX2_isCall ({ frames := 0, cells := 0, slots := 0, locals := 0 }) (wPc (dC, dI) vwCl (wT q) ad en n sz [.int v]) (va_Qi (fun (r : Int32) (en' : Nat → va_E) => r = (if 0 ≤ v ∧ v < 10 then 1 else 0) ∧ en' = en) (wB (dC, dI) vwCl (wT q) ad n (wA ad n sz)) (wA ad n sz)) 0 0 (wA ad n sz) := by
  refine Met.ofW (cc := cX2_isCall) (maxL := 1) (ret := (some .boolean)) (by decide) rfl ?_
  intro p e s m args below meth c s₁ B hml hv
  obtain ⟨rfl, hsz, hP, hK, hD0, hE0⟩ := hv
  have hx := B.exec
  have hb := B.bytes
  have hr := B.returns
  have hts := atoms_spec (ws := wsX2_isCall) B.pre
  have hown : s.vm.findClass RX2 = some m.cls := findClass_of_methodNamed B.named
  have hlocks := B.notSynchronized
  subst hsz
  have hw := wk_of hP hK hD0 hE0
  generalize wA ad n s.heap.size = AA at hw ⊢
  have hl := lv_entry ([.int v]) (n := 1) (Nat.le_of_ble_eq_true rfl)
  rw [lg_entry_eq]
  generalize (lg_sl ([.int v]) ++ List.replicate (1 - (lg_sl ([.int v])).length) Slot.unset).toArray = ls at hl ⊢
  have hl : lv_has ls 1 [(0, .int v)] := hl
  refine lv_iload_n hx hb dX2_isCall_0 rfl (lv_at hl 0 rfl) ?_
  refine lv_if_lt (tgt := 14) hx hb dX2_isCall_1 (by decide) (fun c1 => ?_) (fun c1 => ?_)
  · refine lv_iconst (v := 0) hx hb dX2_isCall_14 (by decide) ?_
    refine we_z hx hb hr hlocks hw (Or.inl rfl) ?_ dX2_isCall_15
    exact ⟨by rw [if_neg (fun h => absurd c1 (Int32.not_lt.mpr h.1))], rfl⟩
  · refine lv_iload_n hx hb dX2_isCall_4 rfl (lv_at hl 0 rfl) ?_
    refine lv_bipush (v := 10) hx hb dX2_isCall_5 (by decide) ?_
    refine lv_icmp_ge (tgt := 14) hx hb dX2_isCall_7 (by decide) (fun c7 => ?_) (fun c7 => ?_)
    · refine lv_iconst (v := 0) hx hb dX2_isCall_14 (by decide) ?_
      refine we_z hx hb hr hlocks hw (Or.inl rfl) ?_ dX2_isCall_15
      exact ⟨by rw [if_neg (fun h => absurd h.2 (Int32.not_lt.mpr c7))], rfl⟩
    · refine lv_iconst (v := 1) hx hb dX2_isCall_10 (by decide) ?_
      refine lv_goto (tgt := 15) hx hb dX2_isCall_11 (by decide) ?_
      refine we_z hx hb hr hlocks hw (Or.inr rfl) ?_ dX2_isCall_15
      exact ⟨by rw [if_pos ⟨Int32.not_lt.mp c1, Int32.not_le.mp c7⟩], rfl⟩

set_option maxHeartbeats 4000000 in
set_option maxRecDepth 100000 in
/-- X2_isSort -/
theorem kX2_isSort (l : Launch) (dC : Nat → ClassId) (dI : Nat → Nat → Nat) (q : ClassId × ClassId × ClassId × ClassId) (ad : Nat → Nat) (en : Nat → va_E) (n sz : Nat) (v : Int32) :
    Met l yX2_isSort wsX2_isSort ({ frames := 0, cells := 0, slots := 0, locals := 0 }) (wPc (dC, dI) vwCl (wT q) ad en n sz [.int v]) (va_Qi (fun (r : Int32) (en' : Nat → va_E) => r = (if 0 ≤ v ∧ v ≤ 6 then 1 else 0) ∧ en' = en) (wB (dC, dI) vwCl (wT q) ad n (wA ad n sz)) (wA ad n sz)) 0 0 (wA ad n sz) := by
  refine Met.ofW (cc := cX2_isSort) (maxL := 1) (ret := (some .boolean)) (by decide) rfl ?_
  intro p e s m args below meth c s₁ B hml hv
  obtain ⟨rfl, hsz, hP, hK, hD0, hE0⟩ := hv
  have hx := B.exec
  have hb := B.bytes
  have hr := B.returns
  have hts := atoms_spec (ws := wsX2_isSort) B.pre
  have hown : s.vm.findClass RX2 = some m.cls := findClass_of_methodNamed B.named
  have hlocks := B.notSynchronized
  subst hsz
  have hw := wk_of hP hK hD0 hE0
  generalize wA ad n s.heap.size = AA at hw ⊢
  have hl := lv_entry ([.int v]) (n := 1) (Nat.le_of_ble_eq_true rfl)
  rw [lg_entry_eq]
  generalize (lg_sl ([.int v]) ++ List.replicate (1 - (lg_sl ([.int v])).length) Slot.unset).toArray = ls at hl ⊢
  have hl : lv_has ls 1 [(0, .int v)] := hl
  refine lv_iload_n hx hb dX2_isSort_0 rfl (lv_at hl 0 rfl) ?_
  refine lv_if_lt (tgt := 14) hx hb dX2_isSort_1 (by decide) (fun c1 => ?_) (fun c1 => ?_)
  · refine lv_iconst (v := 0) hx hb dX2_isSort_14 (by decide) ?_
    refine we_z hx hb hr hlocks hw (Or.inl rfl) ?_ dX2_isSort_15
    exact ⟨by rw [if_neg (fun h => absurd c1 (Int32.not_lt.mpr h.1))], rfl⟩
  · refine lv_iload_n hx hb dX2_isSort_4 rfl (lv_at hl 0 rfl) ?_
    refine lv_bipush (v := 6) hx hb dX2_isSort_5 (by decide) ?_
    refine lv_icmp_gt (tgt := 14) hx hb dX2_isSort_7 (by decide) (fun c7 => ?_) (fun c7 => ?_)
    · refine lv_iconst (v := 0) hx hb dX2_isSort_14 (by decide) ?_
      refine we_z hx hb hr hlocks hw (Or.inl rfl) ?_ dX2_isSort_15
      exact ⟨by rw [if_neg (fun h => absurd h.2 (Int32.not_le.mpr c7))], rfl⟩
    · refine lv_iconst (v := 1) hx hb dX2_isSort_10 (by decide) ?_
      refine lv_goto (tgt := 15) hx hb dX2_isSort_11 (by decide) ?_
      refine we_z hx hb hr hlocks hw (Or.inr rfl) ?_ dX2_isSort_15
      exact ⟨by rw [if_pos ⟨Int32.not_lt.mp c1, Int32.not_lt.mp c7⟩], rfl⟩

set_option maxHeartbeats 4000000 in
set_option maxRecDepth 100000 in
/-- X3_isKind -/
theorem kX3_isKind (l : Launch) (dC : Nat → ClassId) (dI : Nat → Nat → Nat) (q : ClassId × ClassId × ClassId × ClassId) (ad : Nat → Nat) (en : Nat → va_E) (n sz : Nat) (v : Int32) :
    Met l yX3_isKind wsX3_isKind ({ frames := 0, cells := 0, slots := 0, locals := 0 }) (wPc (dC, dI) vwCl (wT q) ad en n sz [.int v]) (va_Qi (fun (r : Int32) (en' : Nat → va_E) => r = (if 0 ≤ v ∧ v < 8 then 1 else 0) ∧ en' = en) (wB (dC, dI) vwCl (wT q) ad n (wA ad n sz)) (wA ad n sz)) 0 0 (wA ad n sz) := by
  refine Met.ofW (cc := cX3_isKind) (maxL := 1) (ret := (some .boolean)) (by decide) rfl ?_
  intro p e s m args below meth c s₁ B hml hv
  obtain ⟨rfl, hsz, hP, hK, hD0, hE0⟩ := hv
  have hx := B.exec
  have hb := B.bytes
  have hr := B.returns
  have hts := atoms_spec (ws := wsX3_isKind) B.pre
  have hown : s.vm.findClass RX3 = some m.cls := findClass_of_methodNamed B.named
  have hlocks := B.notSynchronized
  subst hsz
  have hw := wk_of hP hK hD0 hE0
  generalize wA ad n s.heap.size = AA at hw ⊢
  have hl := lv_entry ([.int v]) (n := 1) (Nat.le_of_ble_eq_true rfl)
  rw [lg_entry_eq]
  generalize (lg_sl ([.int v]) ++ List.replicate (1 - (lg_sl ([.int v])).length) Slot.unset).toArray = ls at hl ⊢
  have hl : lv_has ls 1 [(0, .int v)] := hl
  refine lv_iload_n hx hb dX3_isKind_0 rfl (lv_at hl 0 rfl) ?_
  refine lv_if_lt (tgt := 14) hx hb dX3_isKind_1 (by decide) (fun c1 => ?_) (fun c1 => ?_)
  · refine lv_iconst (v := 0) hx hb dX3_isKind_14 (by decide) ?_
    refine we_z hx hb hr hlocks hw (Or.inl rfl) ?_ dX3_isKind_15
    exact ⟨by rw [if_neg (fun h => absurd c1 (Int32.not_lt.mpr h.1))], rfl⟩
  · refine lv_iload_n hx hb dX3_isKind_4 rfl (lv_at hl 0 rfl) ?_
    refine lv_bipush (v := 8) hx hb dX3_isKind_5 (by decide) ?_
    refine lv_icmp_ge (tgt := 14) hx hb dX3_isKind_7 (by decide) (fun c7 => ?_) (fun c7 => ?_)
    · refine lv_iconst (v := 0) hx hb dX3_isKind_14 (by decide) ?_
      refine we_z hx hb hr hlocks hw (Or.inl rfl) ?_ dX3_isKind_15
      exact ⟨by rw [if_neg (fun h => absurd h.2 (Int32.not_lt.mpr c7))], rfl⟩
    · refine lv_iconst (v := 1) hx hb dX3_isKind_10 (by decide) ?_
      refine lv_goto (tgt := 15) hx hb dX3_isKind_11 (by decide) ?_
      refine we_z hx hb hr hlocks hw (Or.inr rfl) ?_ dX3_isKind_15
      exact ⟨by rw [if_pos ⟨Int32.not_lt.mp c1, Int32.not_le.mp c7⟩], rfl⟩

set_option maxHeartbeats 4000000 in
set_option maxRecDepth 100000 in
/-- X3_isCall -/
theorem kX3_isCall (l : Launch) (dC : Nat → ClassId) (dI : Nat → Nat → Nat) (q : ClassId × ClassId × ClassId × ClassId) (ad : Nat → Nat) (en : Nat → va_E) (n sz : Nat) (v : Int32) :
    Met l yX3_isCall wsX3_isCall ({ frames := 0, cells := 0, slots := 0, locals := 0 }) (wPc (dC, dI) vwCl (wT q) ad en n sz [.int v]) (va_Qi (fun (r : Int32) (en' : Nat → va_E) => r = (if 0 ≤ v ∧ v < 10 then 1 else 0) ∧ en' = en) (wB (dC, dI) vwCl (wT q) ad n (wA ad n sz)) (wA ad n sz)) 0 0 (wA ad n sz) := by
  refine Met.ofW (cc := cX3_isCall) (maxL := 1) (ret := (some .boolean)) (by decide) rfl ?_
  intro p e s m args below meth c s₁ B hml hv
  obtain ⟨rfl, hsz, hP, hK, hD0, hE0⟩ := hv
  have hx := B.exec
  have hb := B.bytes
  have hr := B.returns
  have hts := atoms_spec (ws := wsX3_isCall) B.pre
  have hown : s.vm.findClass RX3 = some m.cls := findClass_of_methodNamed B.named
  have hlocks := B.notSynchronized
  subst hsz
  have hw := wk_of hP hK hD0 hE0
  generalize wA ad n s.heap.size = AA at hw ⊢
  have hl := lv_entry ([.int v]) (n := 1) (Nat.le_of_ble_eq_true rfl)
  rw [lg_entry_eq]
  generalize (lg_sl ([.int v]) ++ List.replicate (1 - (lg_sl ([.int v])).length) Slot.unset).toArray = ls at hl ⊢
  have hl : lv_has ls 1 [(0, .int v)] := hl
  refine lv_iload_n hx hb dX3_isCall_0 rfl (lv_at hl 0 rfl) ?_
  refine lv_if_lt (tgt := 14) hx hb dX3_isCall_1 (by decide) (fun c1 => ?_) (fun c1 => ?_)
  · refine lv_iconst (v := 0) hx hb dX3_isCall_14 (by decide) ?_
    refine we_z hx hb hr hlocks hw (Or.inl rfl) ?_ dX3_isCall_15
    exact ⟨by rw [if_neg (fun h => absurd c1 (Int32.not_lt.mpr h.1))], rfl⟩
  · refine lv_iload_n hx hb dX3_isCall_4 rfl (lv_at hl 0 rfl) ?_
    refine lv_bipush (v := 10) hx hb dX3_isCall_5 (by decide) ?_
    refine lv_icmp_ge (tgt := 14) hx hb dX3_isCall_7 (by decide) (fun c7 => ?_) (fun c7 => ?_)
    · refine lv_iconst (v := 0) hx hb dX3_isCall_14 (by decide) ?_
      refine we_z hx hb hr hlocks hw (Or.inl rfl) ?_ dX3_isCall_15
      exact ⟨by rw [if_neg (fun h => absurd h.2 (Int32.not_lt.mpr c7))], rfl⟩
    · refine lv_iconst (v := 1) hx hb dX3_isCall_10 (by decide) ?_
      refine lv_goto (tgt := 15) hx hb dX3_isCall_11 (by decide) ?_
      refine we_z hx hb hr hlocks hw (Or.inr rfl) ?_ dX3_isCall_15
      exact ⟨by rw [if_pos ⟨Int32.not_lt.mp c1, Int32.not_le.mp c7⟩], rfl⟩

set_option maxHeartbeats 4000000 in
set_option maxRecDepth 100000 in
/-- isToldToFailAt -/
theorem kX1_isToldToFailAt (l : Launch) (dC : Nat → ClassId) (dI : Nat → Nat → Nat) (q : ClassId × ClassId × ClassId × ClassId) (ad : Nat → Nat) (en : Nat → va_E) (n sz : Nat) (b : Nat) (hbn : b + 2 < n) (P : Pst) (hH : PlanAt q ad en b P) (i : Int32) :
    Met l yX1_isToldToFailAt wsX1_isToldToFailAt ({ frames := 0, cells := 0, slots := 0, locals := 0 }) (wPc (dC, dI) vwCl (wT q) ad en n sz [.ref (ad b), .int i]) (va_Qi (fun (r : Int32) (en' : Nat → va_E) => r = (if P.2.2.2.2.1 = i then 1 else 0) ∧ en' = en) (wB (dC, dI) vwCl (wT q) ad n (wA ad n sz)) (wA ad n sz)) 0 0 (wA ad n sz) := by
  refine Met.ofW (cc := cX1_isToldToFailAt) (maxL := 2) (ret := (some .boolean)) (by decide) rfl ?_
  intro p e s m args below meth c s₁ B hml hv
  obtain ⟨rfl, hsz, hP, hK, hD0, hE0⟩ := hv
  have hx := B.exec
  have hb := B.bytes
  have hr := B.returns
  have hts := atoms_spec (ws := wsX1_isToldToFailAt) B.pre
  have hown : s.vm.findClass RX1 = some m.cls := findClass_of_methodNamed B.named
  have hlocks := B.notSynchronized
  have iRX1 : ∀ w ∈ u_ws RX1 TX1 6, w ∈ wsX1_isToldToFailAt := by decide +kernel
  subst hsz
  have hw := wk_of hP hK hD0 hE0
  generalize wA ad n s.heap.size = AA at hw ⊢
  have hl := lv_entry ([.ref (ad b), .int i]) (n := 2) (Nat.le_of_ble_eq_true rfl)
  rw [lg_entry_eq]
  generalize (lg_sl ([.ref (ad b), .int i]) ++ List.replicate (2 - (lg_sl ([.ref (ad b), .int i])).length) Slot.unset).toArray = ls at hl ⊢
  have hl : lv_has ls 2 [(0, .ref (ad b)), (1, .int i)] := hl
  obtain ⟨sf, kf, h0, h1, h2, h3⟩ := hH
  refine lv_aload_n hx hb dX1_isToldToFailAt_0 rfl (lv_at hl 0 rfl) ?_
  refine wr_get (ci := 2) (C := RX1) (T := TX1) (N := 6) hx hb hts iRX1 hown hw b (by omega) h0 rfl 4 (by decide) (hts (.fieldLink RX1 22 "LibraryDesk$Plan" "toldAct" "I") (by decide +kernel)) (fun _ h9 => h9) rfl dX1_isToldToFailAt_1 ?_
  refine lv_iload_n hx hb dX1_isToldToFailAt_4 rfl (lv_at hl 1 rfl) ?_
  refine lv_icmp_ne (tgt := 12) hx hb dX1_isToldToFailAt_5 (by decide) (fun c5 => ?_) (fun c5 => ?_)
  · refine lv_iconst (v := 0) hx hb dX1_isToldToFailAt_12 (by decide) ?_
    refine we_z hx hb hr hlocks hw (Or.inl rfl) ?_ dX1_isToldToFailAt_13
    exact ⟨by rw [if_neg c5], rfl⟩
  · refine lv_iconst (v := 1) hx hb dX1_isToldToFailAt_8 (by decide) ?_
    refine lv_goto (tgt := 13) hx hb dX1_isToldToFailAt_9 (by decide) ?_
    refine we_z hx hb hr hlocks hw (Or.inr rfl) ?_ dX1_isToldToFailAt_13
    exact ⟨by rw [if_pos c5], rfl⟩

set_option maxHeartbeats 4000000 in
set_option maxRecDepth 100000 in
/-- tellToFail -/
theorem kX1_tellToFail (l : Launch) (dC : Nat → ClassId) (dI : Nat → Nat → Nat) (q : ClassId × ClassId × ClassId × ClassId) (ad : Nat → Nat) (en : Nat → va_E) (n sz : Nat) (b : Nat) (hbn : b + 2 < n) (P : Pst) (hH : PlanAt q ad en b P) (i x : Int32) :
    Met l yX1_tellToFail wsX1_tellToFail ({ frames := 0, cells := 0, slots := 0, locals := 0 }) (wPc (dC, dI) vwCl (wT q) ad en n sz [.ref (ad b), .int i, .int x]) (va_Qv (fun (en' : Nat → va_E) => PlanAt q ad en' b (P.1, P.2.1, P.2.2.1, P.2.2.2.1, i, x) ∧ ∀ j, (j < b ∨ b + 3 ≤ j) → en' j = en j) (wB (dC, dI) vwCl (wT q) ad n (wA ad n sz)) (wA ad n sz)) 0 0 (wA ad n sz) := by
  refine Met.ofW (cc := cX1_tellToFail) (maxL := 3) (ret := none) (by decide) rfl ?_
  intro p e s m args below meth c s₁ B hml hv
  obtain ⟨rfl, hsz, hP, hK, hD0, hE0⟩ := hv
  have hx := B.exec
  have hb := B.bytes
  have hr := B.returns
  have hts := atoms_spec (ws := wsX1_tellToFail) B.pre
  have hown : s.vm.findClass RX1 = some m.cls := findClass_of_methodNamed B.named
  have hlocks := B.notSynchronized
  have iRX1 : ∀ w ∈ u_ws RX1 TX1 6, w ∈ wsX1_tellToFail := by decide +kernel
  subst hsz
  have hw := wk_of hP hK hD0 hE0
  generalize wA ad n s.heap.size = AA at hw ⊢
  have hl := lv_entry ([.ref (ad b), .int i, .int x]) (n := 3) (Nat.le_of_ble_eq_true rfl)
  rw [lg_entry_eq]
  generalize (lg_sl ([.ref (ad b), .int i, .int x]) ++ List.replicate (3 - (lg_sl ([.ref (ad b), .int i, .int x])).length) Slot.unset).toArray = ls at hl ⊢
  have hl : lv_has ls 3 [(0, .ref (ad b)), (1, .int i), (2, .int x)] := hl
  obtain ⟨sf, kf, h0, h1, h2, h3⟩ := hH
  refine lv_aload_n hx hb dX1_tellToFail_0 rfl (lv_at hl 0 rfl) ?_
  refine lv_iload_n hx hb dX1_tellToFail_1 rfl (lv_at hl 1 rfl) ?_
  refine wr_put (ci := 2) (v := .int i) (ty := .int) (C := RX1) (T := TX1) (N := 6) hx hb hts iRX1 tyX1 tyX1_ok nmX1 hown hw b (by omega) h0 rfl 4 (by decide) (hts (.fieldLink RX1 22 "LibraryDesk$Plan" "toldAct" "I") (by decide +kernel)) (fun _ h9 => h9) rfl (by decide +kernel) rfl rfl (Nat.le_of_ble_eq_true rfl) dX1_tellToFail_2 (fun en2 H locs hE1 hw => ?_)
  have he3 : en2 b = .inr (2, [.int P.1, .int (nI P.2.1), .ref (ad (b + 1)), .ref (ad (b + 2)), .int i, .int P.2.2.2.2.2]) := w_self hE1
  have he4 : en2 (b + 1) = .inl (q.1, 6, .inl sf) := w_ne hE1 (by omega) h1
  have he5 : en2 (b + 2) = .inl (q.1, 6, .inl kf) := w_ne hE1 (by omega) h2
  refine lv_aload_n hx hb dX1_tellToFail_5 rfl (lv_at hl 0 rfl) ?_
  refine lv_iload_n hx hb dX1_tellToFail_6 rfl (lv_at hl 2 rfl) ?_
  refine wr_put (ci := 2) (v := .int x) (ty := .int) (C := RX1) (T := TX1) (N := 6) hx hb hts iRX1 tyX1 tyX1_ok nmX1 hown hw b (by omega) he3 rfl 5 (by decide) (hts (.fieldLink RX1 28 "LibraryDesk$Plan" "toldWith" "I") (by decide +kernel)) (fun _ h9 => h9) rfl (by decide +kernel) rfl rfl (Nat.le_of_ble_eq_true rfl) dX1_tellToFail_7 (fun en7 H locs hE6 hw => ?_)
  have he8 : en7 b = .inr (2, [.int P.1, .int (nI P.2.1), .ref (ad (b + 1)), .ref (ad (b + 2)), .int i, .int x]) := w_self hE6
  have he9 : en7 (b + 1) = .inl (q.1, 6, .inl sf) := w_ne hE6 (by omega) he4
  have he10 : en7 (b + 2) = .inl (q.1, 6, .inl kf) := w_ne hE6 (by omega) he5
  refine we_v hx hb hr hlocks hw ?_ dX1_tellToFail_10
  exact ⟨⟨sf, kf, he8, he9, he10, h3⟩, fun j hj => (w_fr hE6 (by omega)).trans (w_fr hE1 (by omega))⟩

set_option maxHeartbeats 4000000 in
set_option maxRecDepth 100000 in
/-- forgetTold -/
theorem kX1_forgetTold (l : Launch) (dC : Nat → ClassId) (dI : Nat → Nat → Nat) (q : ClassId × ClassId × ClassId × ClassId) (ad : Nat → Nat) (en : Nat → va_E) (n sz : Nat) (b : Nat) (hbn : b + 2 < n) (P : Pst) (hH : PlanAt q ad en b P) :
    Met l yX1_forgetTold wsX1_forgetTold ({ frames := 0, cells := 0, slots := 0, locals := 0 }) (wPc (dC, dI) vwCl (wT q) ad en n sz [.ref (ad b)]) (va_Qv (fun (en' : Nat → va_E) => PlanAt q ad en' b (P.1, P.2.1, P.2.2.1, P.2.2.2.1, -1, P.2.2.2.2.2) ∧ ∀ j, (j < b ∨ b + 3 ≤ j) → en' j = en j) (wB (dC, dI) vwCl (wT q) ad n (wA ad n sz)) (wA ad n sz)) 0 0 (wA ad n sz) := by
  refine Met.ofW (cc := cX1_forgetTold) (maxL := 1) (ret := none) (by decide) rfl ?_
  intro p e s m args below meth c s₁ B hml hv
  obtain ⟨rfl, hsz, hP, hK, hD0, hE0⟩ := hv
  have hx := B.exec
  have hb := B.bytes
  have hr := B.returns
  have hts := atoms_spec (ws := wsX1_forgetTold) B.pre
  have hown : s.vm.findClass RX1 = some m.cls := findClass_of_methodNamed B.named
  have hlocks := B.notSynchronized
  have iRX1 : ∀ w ∈ u_ws RX1 TX1 6, w ∈ wsX1_forgetTold := by decide +kernel
  subst hsz
  have hw := wk_of hP hK hD0 hE0
  generalize wA ad n s.heap.size = AA at hw ⊢
  have hl := lv_entry ([.ref (ad b)]) (n := 1) (Nat.le_of_ble_eq_true rfl)
  rw [lg_entry_eq]
  generalize (lg_sl ([.ref (ad b)]) ++ List.replicate (1 - (lg_sl ([.ref (ad b)])).length) Slot.unset).toArray = ls at hl ⊢
  have hl : lv_has ls 1 [(0, .ref (ad b))] := hl
  obtain ⟨sf, kf, h0, h1, h2, h3⟩ := hH
  refine lv_aload_n hx hb dX1_forgetTold_0 rfl (lv_at hl 0 rfl) ?_
  refine lv_iconst (v := (-1)) hx hb dX1_forgetTold_1 (by decide) ?_
  refine wr_put (ci := 2) (v := .int (-1)) (ty := .int) (C := RX1) (T := TX1) (N := 6) hx hb hts iRX1 tyX1 tyX1_ok nmX1 hown hw b (by omega) h0 rfl 4 (by decide) (hts (.fieldLink RX1 22 "LibraryDesk$Plan" "toldAct" "I") (by decide +kernel)) (fun _ h9 => h9) rfl (by decide +kernel) rfl rfl (Nat.le_of_ble_eq_true rfl) dX1_forgetTold_2 (fun en2 H locs hE1 hw => ?_)
  have he3 : en2 b = .inr (2, [.int P.1, .int (nI P.2.1), .ref (ad (b + 1)), .ref (ad (b + 2)), .int (-1), .int P.2.2.2.2.2]) := w_self hE1
  have he4 : en2 (b + 1) = .inl (q.1, 6, .inl sf) := w_ne hE1 (by omega) h1
  have he5 : en2 (b + 2) = .inl (q.1, 6, .inl kf) := w_ne hE1 (by omega) h2
  refine we_v hx hb hr hlocks hw ?_ dX1_forgetTold_5
  exact ⟨⟨sf, kf, he3, he4, he5, h3⟩, fun j hj => w_fr hE1 (by omega)⟩

set_option maxHeartbeats 4000000 in
set_option maxRecDepth 100000 in
/-- addAct -/
theorem kX1_addAct (l : Launch) (dC : Nat → ClassId) (dI : Nat → Nat → Nat) (q : ClassId × ClassId × ClassId × ClassId) (ad : Nat → Nat) (en : Nat → va_E) (n sz : Nat) (b : Nat) (hbn : b + 2 < n) (P : Pst) (hH : PlanAt q ad en b P) (hP6 : P.2.1 ≤ 6) (sv kv : Int32) :
    Met l yX1_addAct wsX1_addAct ({ frames := 0, cells := 0, slots := 0, locals := 0 }) (wPc (dC, dI) vwCl (wT q) ad en n sz [.ref (ad b), .int sv, .int kv]) (va_Qi (fun (r : Int32) (en' : Nat → va_E) => r = (if P.2.1 < 6 then 1 else 0) ∧ PlanAt q ad en' b (pAdd sv kv P) ∧ ∀ j, (j < b ∨ b + 3 ≤ j) → en' j = en j) (wB (dC, dI) vwCl (wT q) ad n (wA ad n sz)) (wA ad n sz)) 0 0 (wA ad n sz) := by
  refine Met.ofW (cc := cX1_addAct) (maxL := 3) (ret := (some .boolean)) (by decide) rfl ?_
  intro p e s m args below meth c s₁ B hml hv
  obtain ⟨rfl, hsz, hP, hK, hD0, hE0⟩ := hv
  have hx := B.exec
  have hb := B.bytes
  have hr := B.returns
  have hts := atoms_spec (ws := wsX1_addAct) B.pre
  have hown : s.vm.findClass RX1 = some m.cls := findClass_of_methodNamed B.named
  have hlocks := B.notSynchronized
  have iRX1 : ∀ w ∈ u_ws RX1 TX1 6, w ∈ wsX1_addAct := by decide +kernel
  subst hsz
  have hw := wk_of hP hK hD0 hE0
  generalize wA ad n s.heap.size = AA at hw ⊢
  have hl := lv_entry ([.ref (ad b), .int sv, .int kv]) (n := 3) (Nat.le_of_ble_eq_true rfl)
  rw [lg_entry_eq]
  generalize (lg_sl ([.ref (ad b), .int sv, .int kv]) ++ List.replicate (3 - (lg_sl ([.ref (ad b), .int sv, .int kv])).length) Slot.unset).toArray = ls at hl ⊢
  have hl : lv_has ls 3 [(0, .ref (ad b)), (1, .int sv), (2, .int kv)] := hl
  obtain ⟨sf, kf, h0, h1, h2, h3⟩ := hH
  refine lv_aload_n hx hb dX1_addAct_0 rfl (lv_at hl 0 rfl) ?_
  refine wr_get (ci := 2) (C := RX1) (T := TX1) (N := 6) hx hb hts iRX1 hown hw b (by omega) h0 rfl 1 (by decide) (hts (.fieldLink RX1 25 "LibraryDesk$Plan" "actCount" "I") (by decide +kernel)) (fun _ h9 => h9) rfl dX1_addAct_1 ?_
  refine lv_bipush (v := 6) hx hb dX1_addAct_4 (by decide) ?_
  refine lv_icmp_lt (tgt := 11) hx hb dX1_addAct_6 (by decide) (fun c6 => ?_) (fun c6 => ?_)
  · have hc6 : P.2.1 < 6 := (nI_ltI (by omega) (by omega)).mp c6
    refine lv_aload_n hx hb dX1_addAct_11 rfl (lv_at hl 0 rfl) ?_
    refine wr_get (ci := 2) (C := RX1) (T := TX1) (N := 6) hx hb hts iRX1 hown hw b (by omega) h0 rfl 2 (by decide) (hts (.fieldLink RX1 15 "LibraryDesk$Plan" "sorts" "[I") (by decide +kernel)) (fun _ h9 => h9) rfl dX1_addAct_12 ?_
    refine lv_aload_n hx hb dX1_addAct_15 rfl (lv_at hl 0 rfl) ?_
    refine wr_get (ci := 2) (C := RX1) (T := TX1) (N := 6) hx hb hts iRX1 hown hw b (by omega) h0 rfl 1 (by decide) (hts (.fieldLink RX1 25 "LibraryDesk$Plan" "actCount" "I") (by decide +kernel)) (fun _ h9 => h9) rfl dX1_addAct_16 ?_
    refine lv_iload_n hx hb dX1_addAct_19 rfl (lv_at hl 1 rfl) ?_
    refine wr_iast (j := P.2.1) hx hb hw (b + 1) (by omega) 0 h1 rfl (vp_in_nI (by omega) (by decide)) (nI_clamp (by omega)) dX1_addAct_20 (fun en2 H locs hE1 hw => ?_)
    have he3 : en2 b = .inr (2, [.int P.1, .int (nI P.2.1), .ref (ad (b + 1)), .ref (ad (b + 2)), .int P.2.2.2.2.1, .int P.2.2.2.2.2]) := w_ne hE1 (by omega) h0
    have he4 : en2 (b + 1) = .inl (q.1, 6, .inl (upd sf P.2.1 sv)) := w_self hE1
    have he5 : en2 (b + 2) = .inl (q.1, 6, .inl kf) := w_ne hE1 (by omega) h2
    refine lv_aload_n hx hb dX1_addAct_21 rfl (lv_at hl 0 rfl) ?_
    refine wr_get (ci := 2) (C := RX1) (T := TX1) (N := 6) hx hb hts iRX1 hown hw b (by omega) he3 rfl 3 (by decide) (hts (.fieldLink RX1 19 "LibraryDesk$Plan" "kinds" "[I") (by decide +kernel)) (fun _ h9 => h9) rfl dX1_addAct_22 ?_
    refine lv_aload_n hx hb dX1_addAct_25 rfl (lv_at hl 0 rfl) ?_
    refine wr_get (ci := 2) (C := RX1) (T := TX1) (N := 6) hx hb hts iRX1 hown hw b (by omega) he3 rfl 1 (by decide) (hts (.fieldLink RX1 25 "LibraryDesk$Plan" "actCount" "I") (by decide +kernel)) (fun _ h9 => h9) rfl dX1_addAct_26 ?_
    refine lv_iload_n hx hb dX1_addAct_29 rfl (lv_at hl 2 rfl) ?_
    refine wr_iast (j := P.2.1) hx hb hw (b + 2) (by omega) 0 he5 rfl (vp_in_nI (by omega) (by decide)) (nI_clamp (by omega)) dX1_addAct_30 (fun en7 H locs hE6 hw => ?_)
    have he8 : en7 b = .inr (2, [.int P.1, .int (nI P.2.1), .ref (ad (b + 1)), .ref (ad (b + 2)), .int P.2.2.2.2.1, .int P.2.2.2.2.2]) := w_ne hE6 (by omega) he3
    have he9 : en7 (b + 1) = .inl (q.1, 6, .inl (upd sf P.2.1 sv)) := w_ne hE6 (by omega) he4
    have he10 : en7 (b + 2) = .inl (q.1, 6, .inl (upd kf P.2.1 kv)) := w_self hE6
    refine lv_aload_n hx hb dX1_addAct_31 rfl (lv_at hl 0 rfl) ?_
    refine lv_dup hx hb dX1_addAct_32 rfl ?_
    refine wr_get (ci := 2) (C := RX1) (T := TX1) (N := 6) hx hb hts iRX1 hown hw b (by omega) he8 rfl 1 (by decide) (hts (.fieldLink RX1 25 "LibraryDesk$Plan" "actCount" "I") (by decide +kernel)) (fun _ h9 => h9) rfl dX1_addAct_33 ?_
    refine lv_iconst (v := 1) hx hb dX1_addAct_36 (by decide) ?_
    refine lv_iadd hx hb dX1_addAct_37 ?_
    refine lv_topi (fun x11 ex11 => ?_)
    have ex11n : x11 = nI (P.2.1 + 1) := ex11.trans (nI_1 _)
    clear ex11
    subst ex11n
    refine wr_put (ci := 2) (v := .int (nI (P.2.1 + 1))) (ty := .int) (C := RX1) (T := TX1) (N := 6) hx hb hts iRX1 tyX1 tyX1_ok nmX1 hown hw b (by omega) he8 rfl 1 (by decide) (hts (.fieldLink RX1 25 "LibraryDesk$Plan" "actCount" "I") (by decide +kernel)) (fun _ h9 => h9) rfl (by decide +kernel) rfl rfl (Nat.le_of_ble_eq_true rfl) dX1_addAct_38 (fun en13 H locs hE12 hw => ?_)
    have he14 : en13 b = .inr (2, [.int P.1, .int (nI (P.2.1 + 1)), .ref (ad (b + 1)), .ref (ad (b + 2)), .int P.2.2.2.2.1, .int P.2.2.2.2.2]) := w_self hE12
    have he15 : en13 (b + 1) = .inl (q.1, 6, .inl (upd sf P.2.1 sv)) := w_ne hE12 (by omega) he9
    have he16 : en13 (b + 2) = .inl (q.1, 6, .inl (upd kf P.2.1 kv)) := w_ne hE12 (by omega) he10
    refine lv_iconst (v := 1) hx hb dX1_addAct_41 (by decide) ?_
    refine we_z hx hb hr hlocks hw (Or.inr rfl) ?_ dX1_addAct_42
    refine ⟨by rw [if_pos hc6], ?_, fun j hj => (w_fr hE12 (by omega)).trans ((w_fr hE6 (by omega)).trans (w_fr hE1 (by omega)))⟩
    unfold pAdd
    rw [if_pos hc6]
    refine ⟨_, _, he14, he15, he16, fun i hi => ?_⟩
    by_cases hiP : i = P.2.1
    · subst hiP
      exact ⟨by show upd sf _ sv _ = upd P.2.2.1 _ sv _; rw [pk_us, pk_us], by show upd kf _ kv _ = upd P.2.2.2.1 _ kv _; rw [pk_us, pk_us]⟩
    · have hi2 : i < P.2.1 + 1 := hi
      have h4 := h3 i (by omega)
      exact ⟨by show upd sf _ sv _ = upd P.2.2.1 _ sv _; rw [pk_un hiP, pk_un hiP]; exact h4.1, by show upd kf _ kv _ = upd P.2.2.2.1 _ kv _; rw [pk_un hiP, pk_un hiP]; exact h4.2⟩
  · have hc6 : ¬ P.2.1 < 6 := fun h => c6 ((nI_ltI (b := 6) (by omega) (by omega)).mpr h)
    refine lv_iconst (v := 0) hx hb dX1_addAct_9 (by decide) ?_
    refine we_z hx hb hr hlocks hw (Or.inl rfl) ?_ dX1_addAct_10
    refine ⟨by rw [if_neg hc6], ?_, fun j hj => rfl⟩
    unfold pAdd
    rw [if_neg hc6]
    exact ⟨sf, kf, h0, h1, h2, h3⟩
