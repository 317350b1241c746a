/-! The law: its loop, and its start. -/
theorem and15 (x : Int32) : ∃ k : Nat, k < 16 ∧ x &&& 15 = nI k := by
  refine ⟨x.toBitVec.toNat &&& 15, Nat.lt_of_le_of_lt Nat.and_le_right (by decide), ?_⟩
  apply Int32.toBitVec_inj.mp
  apply BitVec.eq_of_toNat_eq
  show (x.toBitVec &&& 15#32).toNat = (BitVec.ofNat 32 (x.toBitVec.toNat &&& 15)).toNat
  rw [BitVec.toNat_and, BitVec.toNat_ofNat, BitVec.toNat_ofNat]
  have h1 : x.toBitVec.toNat &&& 15 ≤ 15 := Nat.and_le_right
  have h2 : (15 % 2 ^ 32) = 15 := by decide
  rw [h2]
  exact (Nat.mod_eq_of_lt (by omega)).symm
theorem head_gt {L i : Nat} (hL : L ≤ 2560) (hi : i ≤ 2560) : (nI L - 5 < nI i) ↔ L < i + 5 := by
  have e5 : (5 : Int32).toInt = 5 := by decide
  rw [Int32.lt_iff_toInt_lt, Int32.toInt_sub, nI_toInt (by omega), nI_toInt (by omega), e5]
  have e : ((L : Int) - 5).bmod (2 ^ 32) = (L : Int) - 5 := by
    rw [Int.bmod_def]
    split <;> omega
  rw [e]
  omega
set_option maxRecDepth 100000 in
theorem law_loop {p : Program} {e : Env} {s : State} {m : MethodId} {below : List Frame} {meth : Method} {c : Code} (l : Launch) {b L : Nat} {xs : Nat → Int32} (hL : L ≤ 2560) (C0 : lw_At p s m meth c b L xs) (hst : l.stackTraces = false) (hO : rOK s) {dC : Nat → ClassId} {dI : Nat → Nat → Nat} {q : ClassId × ClassId × ClassId × ClassId} {ad : Nat → Nat} :
    ∀ (n t cells slots : Nat), 5 * t ≤ L → L < 5 * t + 5 * n → cells = 59 + t → slots = 1218 + 6 * t → ∀ (en : Nat → va_E) (A : Ast) (pl : Nat → Pst) (cs : Nat → Int32) (H : Heap) (locs : List Loc) (ls : Array Slot), lInv q ad en A pl cs → wk (dC, dI) vwCl (wT q) ad en 59 (fun q : Nat => s.heap.size ≤ q) s H locs → lv_has ls 8 [(0, .ref b), (1, .ref (ad 0)), (2, .ref (ad 42)), (3, .ref (ad 58)), (4, .int (nI (5 * t)))] →
      W p l e room_1 s m #[Value.ref b] below meth c H locs cells slots (lw_Z below #[Value.ref b] s) (F0 m 23 ls []) := by
  obtain ⟨hx, hb0, hr, hml, hown, hts0, hX, hbl, hlocks, hgv⟩ := id C0
  have hb : c.code = cL_law := hb0
  have hbA : ¬ (fun q : Nat => s.heap.size ≤ q) b := Nat.not_le.mpr hbl
  intro n
  induction n with
  | zero =>
    intro t cells slots h1 h2
    exact absurd h2 (by omega)
  | succ n ih =>
    intro t cells slots ht hn ec es en A pl cs H locs ls hI hw hl
    refine lv_iload hx hb dL_law_23 (lv_at hl 4 rfl) ?_
    refine lv_aload_n hx hb dL_law_25 rfl (lv_at hl 0 rfl) ?_
    refine va_slen hx hb hX hbl hbA hw.2.2.2.1 dL_law_26 ?_
    refine lv_iconst (v := 5) hx hb dL_law_27 (by decide) ?_
    refine lv_isub hx hb dL_law_28 ?_
    refine lv_icmp_gt (tgt := 696) hx hb dL_law_29 (by decide) (fun c29 => ?_) (fun c29 => ?_)
    · refine lv_iconst (v := 1) hx hb dL_law_696 (by decide) ?_
      refine va_forget (fun q hq => hw.2.2.2.1.2.2 q hq) ?_
      refine W.widen (k := 601024) (n := 7293034) (by omega) (by omega) ?_
      exact lw_ret hx hb0 hr hlocks dL_law_697
    · have hi : 5 * t + 5 ≤ L := by
        rcases Nat.lt_or_ge L (5 * t + 5) with h | h
        · exact absurd ((head_gt hL (by omega)).mpr h) c29
        · exact h
      have hcl : cells + 1 ≤ 601024 := by omega
      have hsl : slots + 6 ≤ 7293034 := by omega
      have kk : lKK p l e s m below meth c b dC dI q ad (5 * t) cells slots := by
        intro en' A' pl' cs' H' locs' ls' hI hw hl
        refine lv_iinc (v := nI (5 * (t + 1))) (lv' := [(4, .int (nI (5 * (t + 1)))), (0, .ref b), (1, .ref (ad 0)), (2, .ref (ad 42)), (3, .ref (ad 58))]) hx hb dL_law_690 hl (k := 4) rfl (nI_add (5 * t) 5) (by decide) rfl (fun ls hl => ?_)
        refine lv_goto (tgt := 23) hx hb dL_law_693 (by decide) ?_
        exact ih (t + 1) _ _ (by omega) (by omega) (by omega) (by omega) en' A' pl' cs' H' locs' ls hI hw (lv_sub hl [1, 2, 3, 4, 0] rfl)
      refine lv_aload_n hx hb dL_law_32 rfl (lv_at hl 0 rfl) ?_
      refine lv_iload hx hb dL_law_33 (lv_at hl 4 rfl) ?_
      refine va_sld hx hb hX hbl hbA hw.2.2.2.1 (vp_in_nI (by omega) (by omega)) dL_law_35 ?_
      refine lv_bipush (v := 15) hx hb dL_law_36 (by decide) ?_
      refine lv_iand hx hb dL_law_38 ?_
      obtain ⟨k, hk, ek⟩ := and15 (xs (nI (5 * t)).toNatClampNeg)
      rw [ek]
      have hk13 : k = 0 ∨ k = 1 ∨ k = 2 ∨ k = 3 ∨ k = 4 ∨ k = 5 ∨ k = 6 ∨ k = 7 ∨ k = 8 ∨ k = 9 ∨ k = 10 ∨ k = 11 ∨ k = 12 ∨ 12 < k := by omega
      rcases hk13 with rfl | rfl | rfl | rfl | rfl | rfl | rfl | rfl | rfl | rfl | rfl | rfl | rfl | h
      · exact lv_tableIn (off := 65) (tgt := 104) hx hb dL_law_39 (by decide) (by decide) (by decide) (by decide) (lc_collect l hL C0 hI hi hw hl hcl hsl kk)
      · exact lv_tableIn (off := 122) (tgt := 161) hx hb dL_law_39 (by decide) (by decide) (by decide) (by decide) (lc_wants l hL C0 hI hi hw hl hcl hsl kk)
      · exact lv_tableIn (off := 159) (tgt := 198) hx hb dL_law_39 (by decide) (by decide) (by decide) (by decide) (lc_act l hL C0 hI hi hw hl hcl hsl kk)
      · exact lv_tableIn (off := 208) (tgt := 247) hx hb dL_law_39 (by decide) (by decide) (by decide) (by decide) (lc_fails l hL C0 hI hi hw hl hcl hsl kk)
      · exact lv_tableIn (off := 257) (tgt := 296) hx hb dL_law_39 (by decide) (by decide) (by decide) (by decide) (lc_make l hL C0 hI hi hw hl hcl hsl kk)
      · exact lv_tableIn (off := 282) (tgt := 321) hx hb dL_law_39 (by decide) (by decide) (by decide) (by decide) (lc_drop l hL C0 hI hi hw hl hcl hsl kk)
      · exact lv_tableIn (off := 319) (tgt := 358) hx hb dL_law_39 (by decide) (by decide) (by decide) (by decide) (lc_call l hL C0 hI hi hw hl hcl hsl kk)
      · exact lv_tableIn (off := 401) (tgt := 440) hx hb dL_law_39 (by decide) (by decide) (by decide) (by decide) (lc_again l hL C0 hI hi hw hl hcl hsl kk)
      · exact lv_tableIn (off := 483) (tgt := 522) hx hb dL_law_39 (by decide) (by decide) (by decide) (by decide) (lc_told l hL C0 hI hi hw hl hcl hsl kk)
      · exact lv_tableIn (off := 508) (tgt := 547) hx hb dL_law_39 (by decide) (by decide) (by decide) (by decide) (lc_numbers l hL C0 hI hi hw hl hcl hsl kk)
      · exact lv_tableIn (off := 533) (tgt := 572) hx hb dL_law_39 (by decide) (by decide) (by decide) (by decide) (lc_here l hL C0 hI hi hw hl hcl hsl kk)
      · exact lv_tableIn (off := 570) (tgt := 609) hx hb dL_law_39 (by decide) (by decide) (by decide) (by decide) (lc_tally l hL C0 hI hi hw hl hcl hsl kk)
      · exact lv_tableIn (off := 596) (tgt := 635) hx hb dL_law_39 (by decide) (by decide) (by decide) (by decide) (lc_row l hL C0 hst hO hI hi hw hl hcl hsl kk)
      · refine lv_tableOut (tgt := 690) hx hb dL_law_39 (Or.inr ?_) (by decide) ?_
        · rw [nI_toInt (by omega)]
          omega
        · exact W.widen (k := cells + 1) (n := slots + 6) (by omega) (by omega) (kk en A pl cs H locs ls hI hw hl)
theorem rA_tbl : ∀ w ∈ rA, w ∈ lw_tbl ∨ w = .isRef (.static rN rS1.1 rS1.2) ∨ w = .isRef (.static rN rS2.1 rS2.2) := by decide +kernel
theorem rOK_start {p : Program} {s : State} {m : MethodId} {meth : Method} {c : Code} {b L : Nat} {xs : Nat → Int32} (C0 : lw_At p s m meth c b L xs) : rOK s := by
  obtain ⟨-, -, -, -, -, hts0, -, -, -, hgv⟩ := C0
  have hg := flat_of_before _ hgv
  have h1 : ∀ w ∈ rA, w.before #[Value.ref b] s = true := fun w hw => by
    rcases rA_tbl w hw with h | rfl | rfl
    · exact hts0 w h
    · exact hg _ (by decide +kernel)
    · exact hg _ (by decide +kernel)
  obtain ⟨a, -, -, -, ha, -⟩ := Cond.exactly_spec (hg (.exactly (.string "LibraryDesk" 126) "java/lang/String") (by decide +kernel))
  exact ⟨r_move (State.WarmedH.refl s) (fun _ _ => rfl) h1, ⟨a, vk_R.of (hts0 (.stringRef RX2 126 "no such value in the row") (by decide +kernel)) ha⟩, fun A => va_tabs rfl rfl (hts0 (.classLink RL 13 RJx00060) (by decide +kernel))⟩
/-- what the tables say of the classes and of the arrays' classes -/
theorem law_K {p : Program} {s : State} {m : MethodId} {meth : Method} {c : Code} {b L : Nat} {xs : Nat → Int32} (C0 : lw_At p s m meth c b L xs) : ∃ (dC : Nat → ClassId) (dI : Nat → Nat → Nat) (q : ClassId × ClassId × ClassId × ClassId), va_K (dC, dI) vwCl (wT q) s ∧ wE s := by
  obtain ⟨-, -, -, -, -, hts0, -, -, -, hgv⟩ := C0
  have hts : ∀ w ∈ wsL_law, w.before #[Value.ref b] s = true := fun w h => hts0 w (wsL_law_in w h)
  obtain ⟨c0, iS0, hKn0⟩ := u_known (C := RJx00060) (T := TJx00060) (N := 6) (n := 6) hts inlJx00060 (hts0 (.instantiable RJx00060 6) (by decide +kernel))
  obtain ⟨c1, iS1, hKn1⟩ := u_known (C := RX0) (T := TX0) (N := 5) (n := 5) hts inlX0 (hts0 (.instantiable RX0 5) (by decide +kernel))
  obtain ⟨c2, iS2, hKn2⟩ := u_known (C := RX1) (T := TX1) (N := 6) (n := 6) hts inlX1 (hts0 (.instantiable RX1 6) (by decide +kernel))
  obtain ⟨c3, iS3, hKn3⟩ := u_known (C := RX2) (T := TX2) (N := 13) (n := 13) hts inlX2 (hts0 (.instantiable RX2 13) (by decide +kernel))
  obtain ⟨c4, iS4, hKn4⟩ := u_known (C := RX3) (T := TX3) (N := 21) (n := 21) hts inlX3 (hts0 (.instantiable RX3 21) (by decide +kernel))
  obtain ⟨a0, k0, m0, f0, g0, h0⟩ := Cond.arrayClass_spec (hts0 (.arrayClass .int) (by decide +kernel))
  obtain ⟨a1, k1, m1, f1, g1, h1⟩ := Cond.arrayClass_spec (hts0 (.arrayClass .long) (by decide +kernel))
  obtain ⟨a2, k2, m2, f2, g2, h2⟩ := Cond.arrayClass_spec (hts0 (.arrayClass .boolean) (by decide +kernel))
  have hao := hts0 (.arrayOver (.object RX1)) (by decide +kernel)
  obtain ⟨m3, a3, k3, f3, -, g3, h3, j3⟩ := Cond.arrayOver_spec hao
  refine ⟨fun k => if k = 0 then c0 else if k = 1 then c1 else if k = 2 then c2 else if k = 3 then c3 else c4, fun k => if k = 0 then iS0 else if k = 1 then iS1 else if k = 2 then iS2 else if k = 3 then iS3 else iS4, (a0, a1, a2, a3), ⟨?_, ?_⟩, va_Nw.of rfl (hts0 (.methodLinkNest RX0 35 yX2_isKind "LibraryDesk") (by decide +kernel)), va_AO.of hao⟩
  · intro k q hq
    match k, hq with
    | 0, hq => cases hq; exact hKn0
    | 1, hq => cases hq; exact hKn1
    | 2, hq => cases hq; exact hKn2
    | 3, hq => cases hq; exact hKn3
    | 4, hq => cases hq; exact hKn4
    | k + 5, hq => simp [vwCl] at hq
  · intro k q hq
    match k, hq with
    | 0, hq => cases hq; exact ⟨fun n z => ⟨fun k h => (by cases h), k0, g0, m0, h0⟩, f0⟩
    | 1, hq => cases hq; exact ⟨fun n z => ⟨fun k h => (by cases h), k1, g1, m1, h1⟩, f1⟩
    | 2, hq => cases hq; exact ⟨fun n z => ⟨fun k h => (by cases h), k2, g2, m2, h2⟩, f2⟩
    | 3, hq => cases hq; exact ⟨fun n z => ⟨fun k h => (by cases h), k3, g3, m3, h3⟩, k3, m3, g3, h3, f3, j3⟩
    | k + 4, hq => simp [wT] at hq
set_option maxRecDepth 100000 in
theorem whole_start {p : Program} {e : Env} {s : State} {m : MethodId} {below : List Frame} {meth : Method} {c : Code} (l : Launch) (hst : l.stackTraces = false) {b L : Nat} {xs : Nat → Int32} (hL : L ≤ 2560) (C0 : lw_At p s m meth c b L xs) : W p l e room_1 s m #[Value.ref b] below meth c s.heap [] 0 0 (lw_Z below #[Value.ref b] s) (entryFrame m ([Value.ref b] : List Value).toArray 8) := by
  obtain ⟨dC, dI, q, hK, hE⟩ := law_K C0
  have hO := rOK_start C0
  obtain ⟨hx, hb0, hr, hml, hown, hts0, hX, hbl, hlocks, hgv⟩ := id C0
  have hb : c.code = cL_law := hb0
  have hown : s.vm.findClass RL = some m.cls := hown
  have hts : ∀ w ∈ wsL_law, w.before #[Value.ref b] s = true := fun w h => hts0 w (wsL_law_in w h)
  have hw : wk (dC, dI) vwCl (wT q) (fun _ => 0) (fun _ => .inr (0, [])) 0 (fun q : Nat => s.heap.size ≤ q) s s.heap [] := by
    refine ⟨hK, fun k q h => ?_, ⟨fun i j x y h => ?_, fun k q h => ?_⟩, va_S.rf, fun _ h => h, hE⟩
    · simp [wl] at h
    · simp [wl] at h
    · simp [wl] at h
  have hl := lv_entry ([.ref b]) (n := 8) (Nat.le_of_ble_eq_true rfl)
  rw [lg_entry_eq]
  generalize (lg_sl ([.ref b]) ++ List.replicate (8 - (lg_sl ([.ref b])).length) Slot.unset).toArray = ls at hl ⊢
  have hl : lv_has ls 8 [(0, .ref b)] := hl
  refine wr_new (ci := 3) (fs := [.null, .null, .null, .long 0, .int 0, .int 0, .int 0, .int 0, .int 0, .int 0, .int 0, .int 0, .int 0]) (C := RX2) (T := TX2) (N := 13) hx hb hts inlX2 tyX2 tyX2_ok hown (hts0 (.classLink RL 8 RX2) (by decide +kernel)) (hts0 (.instantiable RX2 13) (by decide +kernel)) (hts0 (.initialized RX2) (by decide +kernel)) hw rfl (fun j hj => by rcases (show j = 0 ∨ j = 1 ∨ j = 2 ∨ j = 3 ∨ j = 4 ∨ j = 5 ∨ j = 6 ∨ j = 7 ∨ j = 8 ∨ j = 9 ∨ j = 10 ∨ j = 11 ∨ j = 12 by omega) with rfl | rfl | rfl | rfl | rfl | rfl | rfl | rfl | rfl | rfl | rfl | rfl | rfl <;> rfl) (Nat.le_of_ble_eq_true rfl) (Nat.le_of_ble_eq_true rfl) dL_law_0 (fun ad1 en1 H hg1 hE1 hw => ?_)
  refine lv_dup hx hb dL_law_3 rfl ?_
  refine wc_g (n2 := 42) hw (va_runI (b := ad1 0) (As := []) (rest := [.ref (ad1 0)]) ⟨hx, hb, hml, hown, hts⟩ (kX2_init l dC dI q ad1 en1 _ (w_self hE1)) (cwI 0 hts gL_law_X2_init rfl rfl rfl (hts0 (.initialized RX2) (by decide +kernel)) (hts0 (.methodLink RL 15 yX2_init) (by decide +kernel)) (hts0 (.instanceMethod yX2_init) (by decide +kernel)) rfl (by decide +kernel) ⟨Nat.le_of_ble_eq_true rfl, Nat.le_of_ble_eq_true rfl⟩) (wk_preS hw) rfl rfl hl.1 rfl (lv_room (Nat.le_of_ble_eq_true rfl)) dL_law_4 ⟨Nat.le_of_ble_eq_true rfl, Nat.le_of_ble_eq_true rfl⟩) (fun ad2 en2 H locs hp hw => ?_)
  obtain ⟨hD2, h20⟩ := hp
  dsimp only at hD2 h20
  rw [← h20]
  refine lv_astore_n (lv' := [(1, .ref (ad2 0)), (0, .ref b)]) hx hb dL_law_7 rfl hl (by decide) rfl (fun ls hl => ?_)
  refine wr_new (ci := 4) (fs := [.int 0, .null, .null, .null, .null, .int 0, .null, .null, .null, .null, .int 0, .null, .null, .null, .null, .null, .null, .null, .long 0, .int 0, .int 0]) (C := RX3) (T := TX3) (N := 21) hx hb hts inlX3 tyX3 tyX3_ok hown (hts0 (.classLink RL 16 RX3) (by decide +kernel)) (hts0 (.instantiable RX3 21) (by decide +kernel)) (hts0 (.initialized RX3) (by decide +kernel)) hw rfl (fun j hj => by rcases (show j = 0 ∨ j = 1 ∨ j = 2 ∨ j = 3 ∨ j = 4 ∨ j = 5 ∨ j = 6 ∨ j = 7 ∨ j = 8 ∨ j = 9 ∨ j = 10 ∨ j = 11 ∨ j = 12 ∨ j = 13 ∨ j = 14 ∨ j = 15 ∨ j = 16 ∨ j = 17 ∨ j = 18 ∨ j = 19 ∨ j = 20 by omega) with rfl | rfl | rfl | rfl | rfl | rfl | rfl | rfl | rfl | rfl | rfl | rfl | rfl | rfl | rfl | rfl | rfl | rfl | rfl | rfl | rfl <;> rfl) (Nat.le_of_ble_eq_true rfl) (Nat.le_of_ble_eq_true rfl) dL_law_8 (fun ad3 en3 H hg3 hE3 hw => ?_)
  refine lv_dup hx hb dL_law_11 rfl ?_
  refine wc_g (n2 := 58) hw (va_runI (b := ad3 42) (As := []) (rest := [.ref (ad3 42)]) ⟨hx, hb, hml, hown, hts⟩ (kX3_init l dC dI q ad3 en3 _ (w_self hE3)) (cwI 0 hts gL_law_X3_init rfl rfl rfl (hts0 (.initialized RX3) (by decide +kernel)) (hts0 (.methodLink RL 18 yX3_init) (by decide +kernel)) (hts0 (.instanceMethod yX3_init) (by decide +kernel)) rfl (by decide +kernel) ⟨Nat.le_of_ble_eq_true rfl, Nat.le_of_ble_eq_true rfl⟩) (wk_preS hw) rfl rfl hl.1 rfl (lv_room (Nat.le_of_ble_eq_true rfl)) dL_law_12 ⟨Nat.le_of_ble_eq_true rfl, Nat.le_of_ble_eq_true rfl⟩) (fun ad4 en4 H locs hp hw => ?_)
  obtain ⟨hM4, ha4, hn4⟩ := hp
  dsimp only at hM4 ha4 hn4
  rw [← ha4 42 (by omega)]
  refine lv_astore_n (lv' := [(2, .ref (ad4 42)), (1, .ref (ad2 0)), (0, .ref b)]) hx hb dL_law_15 rfl hl (by decide) rfl (fun ls hl => ?_)
  refine lv_iconst (v := 1) hx hb dL_law_16 (by decide) ?_
  refine wr_newa (atype := .long) (ty := .long) (i := 1) (N' := 1) (a0 := (1, .inr (.inl (fun _ => 0)))) hx hb (hts0 (.arrayClass .long) (by decide +kernel)) rfl hw 1 rfl (fun C h => by cases h) (fun _ => rfl) (by decide) (by decide) (Nat.le_of_ble_eq_true rfl) (Nat.le_of_ble_eq_true rfl) (Nat.le_of_ble_eq_true rfl) dL_law_17 (fun ad5 en5 H hg5 hE5 hw => ?_)
  refine lv_astore_n (lv' := [(3, .ref (ad5 58)), (2, .ref (ad4 42)), (1, .ref (ad2 0)), (0, .ref b)]) hx hb dL_law_19 rfl hl (by decide) rfl (fun ls hl => ?_)
  refine lv_iconst (v := 0) hx hb dL_law_20 (by decide) ?_
  refine lv_istore (lv' := [(4, .int 0), (3, .ref (ad5 58)), (2, .ref (ad4 42)), (1, .ref (ad2 0)), (0, .ref b)]) hx hb dL_law_21 hl (by decide) rfl (fun ls hl => ?_)
  have a52 : ∀ j, j < 42 → ad5 j = ad2 j := fun j hj => (hg5 j (by omega)).trans ((ha4 j (by omega)).trans (hg3 j hj))
  rw [← a52 0 (by omega), ← hg5 42 (by omega)] at hl
  have hD5 := DeskAt_mv hD2 a52 (fun j hj => (w_fr hE5 (by omega)).trans ((hn4 j hj).trans (w_fr hE3 (by omega))))
  have hM5 := ModAt_mv hM4 (fun j _ h2 => hg5 j h2) (fun j h1 h2 => w_fr hE5 (by omega))
  exact law_loop l hL C0 hst hO (L + 1) 0 _ _ (Nat.zero_le _) (by omega) rfl rfl en5 A0 (fun _ => P0) (fun _ => 0) H _ ls ⟨Aok_0, fun _ _ => Pok_0, hD5, ⟨0, hM5⟩, _, w_self hE5⟩ hw (lv_sub hl [4, 3, 2, 1, 0] rfl)
