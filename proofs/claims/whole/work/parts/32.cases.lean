/-! The law's calls, one by one: what the desk answers is what the reference answers. -/
/-- behind a call: at 690, with what holds between the calls -/
def lKK (p : Program) (l : Launch) (e : Env) (s : State) (m : MethodId) (below : List Frame) (meth : Method) (c : Code) (b : Nat) (dC : Nat → ClassId) (dI : Nat → Nat → Nat) (q : ClassId × ClassId × ClassId × ClassId) (ad : Nat → Nat) (i cells slots : Nat) : Prop :=
  ∀ (en' : Nat → va_E) (A' : Ast) (pl' : Nat → Pst) (cs' : Nat → Int32) (H' : Heap) (locs' : List Loc) (ls' : Array Slot), lInv q ad en' A' pl' cs' → wk (dC, dI) vwCl (wT q) ad en' 59 (fun q : Nat => s.heap.size ≤ q) s H' locs' → lv_has ls' 8 [(0, .ref b), (1, .ref (ad 0)), (2, .ref (ad 42)), (3, .ref (ad 58)), (4, .int (nI i))] → W p l e room_1 s m #[Value.ref b] below meth c H' locs' (cells + 1) (slots + 6) (lw_Z below #[Value.ref b] s) (F0 m 690 ls' [])
set_option maxRecDepth 100000 in
theorem lc_collect {p : Program} {e : Env} {s : State} {m : MethodId} {below : List Frame} {meth : Method} {c : Code} (l : Launch) {b L : Nat} {xs : Nat → Int32} (hL : L ≤ 2560) (C0 : lw_At p s m meth c b L xs) {dC : Nat → ClassId} {dI : Nat → Nat → Nat} {q : ClassId × ClassId × ClassId × ClassId} {ad : Nat → Nat} {en : Nat → va_E} {A : Ast} {pl : Nat → Pst} {cs : Nat → Int32} (hI : lInv q ad en A pl cs) {i : Nat} (hi : i + 5 ≤ L) {H : Heap} {locs : List Loc} {ls : Array Slot} {cells slots : Nat} (hw : wk (dC, dI) vwCl (wT q) ad en 59 (fun q : Nat => s.heap.size ≤ q) s H locs) (hl : lv_has ls 8 [(0, .ref b), (1, .ref (ad 0)), (2, .ref (ad 42)), (3, .ref (ad 58)), (4, .int (nI i))]) (hcl : cells + 1 ≤ 601024) (hsl : slots + 6 ≤ 7293034) (kk : lKK p l e s m below meth c b dC dI q ad i cells slots) :
    W p l e room_1 s m #[Value.ref b] below meth c H locs cells slots (lw_Z below #[Value.ref b] s) (F0 m 104 ls []) := by
  obtain ⟨hx, hb, hr, hml, hown, hts0, hX, hbl, hlocks, hgv⟩ := C0
  have hb : c.code = cL_law := hb
  have hown : s.vm.findClass RL = some m.cls := hown
  have hts : ∀ w ∈ wsL_law, w.before #[Value.ref b] s = true := fun w h => hts0 w (wsL_law_in w h)
  have hbA : ¬ (fun q : Nat => s.heap.size ≤ q) b := Nat.not_le.mpr hbl
  obtain ⟨hok, hpok, hD, ⟨th, hM⟩, f, hf⟩ := hI
  obtain ⟨nb, tb, Z, ta, tw, tp, hC⟩ := id hD
  have he0 := hC.2.1
  refine lv_aload_n hx hb dL_law_104 rfl (lv_at hl 1 rfl) ?_
  refine r_long hx hb hown (hts (.constantLong RL 19 4294967295) (by decide +kernel)) hX hbl hbA hw.2.2.2.1 hL (lv_at hl 0 rfl) (lv_at hl 4 rfl) 1 2 (by omega) (by omega) (by decide) (by decide) dL_law_105 dL_law_106 dL_law_108 dL_law_109 dL_law_110 dL_law_111 dL_law_112 dL_law_114 dL_law_115 dL_law_116 dL_law_118 dL_law_119 dL_law_120 dL_law_121 dL_law_122 dL_law_125 dL_law_126 ?_
  refine wc_i hw (va_runV (As := [.long (lng (xs (i + 1)) (xs (i + 2)))]) (rest := []) ⟨hx, hb, hml, hown, hts⟩ (kX2_collect l dC dI q ad en 59 _ (by omega) A pl cs hok hpok hD (lng (xs (i + 1)) (xs (i + 2)))) (cwV 1 hts gL_law_X2_collect rfl rfl rfl (by decide +kernel) ⟨Nat.le_of_ble_eq_true rfl, Nat.le_of_ble_eq_true rfl⟩) (wk_preV hw (by omega) he0 rfl) rfl rfl hl.1 rfl (lv_room (Nat.le_of_ble_eq_true rfl)) dL_law_127 ⟨show _ + 0 ≤ 601024 by omega, show _ + 0 ≤ 7293034 by omega⟩) (fun r1 en1 H locs hp hw => ?_)
  obtain ⟨hr1, hD1, hfr1⟩ := hp
  have hM1 : ModAt q ad en1 th A pl cs := ModAt_mv hM (fun _ _ _ => rfl) (fun j h1 _ => hfr1 j h1)
  obtain ⟨O, an, wy, pla, hokO, hMC⟩ := id hM1
  have he42 := hMC.1
  refine lv_aload_n hx hb dL_law_130 rfl (lv_at hl 2 rfl) ?_
  refine r_long hx hb hown (hts (.constantLong RL 19 4294967295) (by decide +kernel)) hX hbl hbA hw.2.2.2.1 hL (lv_at hl 0 rfl) (lv_at hl 4 rfl) 1 2 (by omega) (by omega) (by decide) (by decide) dL_law_131 dL_law_132 dL_law_134 dL_law_135 dL_law_136 dL_law_137 dL_law_138 dL_law_140 dL_law_141 dL_law_142 dL_law_144 dL_law_145 dL_law_146 dL_law_147 dL_law_148 dL_law_151 dL_law_152 ?_
  refine wc_i hw (va_runV (As := [.long (lng (xs (i + 1)) (xs (i + 2)))]) (rest := [.int r1]) ⟨hx, hb, hml, hown, hts⟩ (kX3_collect l dC dI q ad en1 59 _ (by omega) th A pl cs hok hpok hM1 (lng (xs (i + 1)) (xs (i + 2)))) (cwV 1 hts gL_law_X3_collect rfl rfl rfl (by decide +kernel) ⟨Nat.le_of_ble_eq_true rfl, Nat.le_of_ble_eq_true rfl⟩) (wk_preV hw (by omega) he42 rfl) rfl rfl hl.1 rfl (lv_room (Nat.le_of_ble_eq_true rfl)) dL_law_153 ⟨show _ + 0 ≤ 601024 by omega, show _ + 0 ≤ 7293034 by omega⟩) (fun r2 en2 H locs hp hw => ?_)
  obtain ⟨hr2, hM2, hfr2⟩ := hp
  have hD2 := DeskAt_mv hD1 (fun _ _ => rfl) (fun j h => hfr2 j (Or.inl h))
  refine lv_icmp_eq (tgt := 690) hx hb dL_law_156 (by decide) (fun _ => ?_) (fun h => absurd (hr1.trans hr2.symm) h)
  exact W.widen (k := cells + 1) (n := slots + 6) (by omega) (by omega) (kk en2 _ _ _ H locs ls ⟨Aok_aAdd hok _, hpok, hD2, ⟨0, hM2⟩, f, (hfr2 58 (Or.inr (by omega))).trans ((hfr1 58 (by omega)).trans hf)⟩ hw hl)
set_option maxRecDepth 100000 in
theorem lc_wants {p : Program} {e : Env} {s : State} {m : MethodId} {below : List Frame} {meth : Method} {c : Code} (l : Launch) {b L : Nat} {xs : Nat → Int32} (hL : L ≤ 2560) (C0 : lw_At p s m meth c b L xs) {dC : Nat → ClassId} {dI : Nat → Nat → Nat} {q : ClassId × ClassId × ClassId × ClassId} {ad : Nat → Nat} {en : Nat → va_E} {A : Ast} {pl : Nat → Pst} {cs : Nat → Int32} (hI : lInv q ad en A pl cs) {i : Nat} (hi : i + 5 ≤ L) {H : Heap} {locs : List Loc} {ls : Array Slot} {cells slots : Nat} (hw : wk (dC, dI) vwCl (wT q) ad en 59 (fun q : Nat => s.heap.size ≤ q) s H locs) (hl : lv_has ls 8 [(0, .ref b), (1, .ref (ad 0)), (2, .ref (ad 42)), (3, .ref (ad 58)), (4, .int (nI i))]) (hcl : cells + 1 ≤ 601024) (hsl : slots + 6 ≤ 7293034) (kk : lKK p l e s m below meth c b dC dI q ad i cells slots) :
    W p l e room_1 s m #[Value.ref b] below meth c H locs cells slots (lw_Z below #[Value.ref b] s) (F0 m 161 ls []) := by
  obtain ⟨hx, hb, hr, hml, hown, hts0, hX, hbl, hlocks, hgv⟩ := C0
  have hb : c.code = cL_law := hb
  have hown : s.vm.findClass RL = some m.cls := hown
  have hts : ∀ w ∈ wsL_law, w.before #[Value.ref b] s = true := fun w h => hts0 w (wsL_law_in w h)
  have hbA : ¬ (fun q : Nat => s.heap.size ≤ q) b := Nat.not_le.mpr hbl
  obtain ⟨hok, hpok, hD, ⟨th, hM⟩, f, hf⟩ := hI
  obtain ⟨nb, tb, Z, ta, tw, tp, hC⟩ := id hD
  have he0 := hC.2.1
  refine lv_aload_n hx hb dL_law_161 rfl (lv_at hl 1 rfl) ?_
  refine r_scr hx hb hX hbl hbA hw.2.2.2.1 hL (lv_at hl 0 rfl) (lv_at hl 4 rfl) 1 (by omega) (by decide) dL_law_162 dL_law_163 dL_law_165 dL_law_166 dL_law_167 ?_
  refine r_scr hx hb hX hbl hbA hw.2.2.2.1 hL (lv_at hl 0 rfl) (lv_at hl 4 rfl) 2 (by omega) (by decide) dL_law_168 dL_law_169 dL_law_171 dL_law_172 dL_law_173 ?_
  refine wc_i hw (va_runV (As := [.int (xs (i + 1)), .int (xs (i + 2))]) (rest := []) ⟨hx, hb, hml, hown, hts⟩ (kX2_wants l dC dI q ad en 59 _ (by omega) A pl cs hok hpok hD (xs (i + 1)) (xs (i + 2))) (cwV 2 hts gL_law_X2_wants rfl rfl rfl (by decide +kernel) ⟨Nat.le_of_ble_eq_true rfl, Nat.le_of_ble_eq_true rfl⟩) (wk_preV hw (by omega) he0 rfl) rfl rfl hl.1 rfl (lv_room (Nat.le_of_ble_eq_true rfl)) dL_law_174 ⟨show _ + 0 ≤ 601024 by omega, show _ + 0 ≤ 7293034 by omega⟩) (fun r1 en1 H locs hp hw => ?_)
  obtain ⟨hr1, hD1, hfr1⟩ := hp
  have hM1 : ModAt q ad en1 th A pl cs := ModAt_mv hM (fun _ _ _ => rfl) (fun j h1 _ => hfr1 j h1)
  obtain ⟨O, an, wy, pla, hokO, hMC⟩ := id hM1
  have he42 := hMC.1
  refine lv_aload_n hx hb dL_law_177 rfl (lv_at hl 2 rfl) ?_
  refine r_scr hx hb hX hbl hbA hw.2.2.2.1 hL (lv_at hl 0 rfl) (lv_at hl 4 rfl) 1 (by omega) (by decide) dL_law_178 dL_law_179 dL_law_181 dL_law_182 dL_law_183 ?_
  refine r_scr hx hb hX hbl hbA hw.2.2.2.1 hL (lv_at hl 0 rfl) (lv_at hl 4 rfl) 2 (by omega) (by decide) dL_law_184 dL_law_185 dL_law_187 dL_law_188 dL_law_189 ?_
  refine wc_i hw (va_runV (As := [.int (xs (i + 1)), .int (xs (i + 2))]) (rest := [.int r1]) ⟨hx, hb, hml, hown, hts⟩ (kX3_wants l dC dI q ad en1 59 _ (by omega) th A pl cs hok hpok hM1 (xs (i + 1)) (xs (i + 2))) (cwV 2 hts gL_law_X3_wants rfl rfl rfl (by decide +kernel) ⟨Nat.le_of_ble_eq_true rfl, Nat.le_of_ble_eq_true rfl⟩) (wk_preV hw (by omega) he42 rfl) rfl rfl hl.1 rfl (lv_room (Nat.le_of_ble_eq_true rfl)) dL_law_190 ⟨show _ + 0 ≤ 601024 by omega, show _ + 0 ≤ 7293034 by omega⟩) (fun r2 en2 H locs hp hw => ?_)
  obtain ⟨hr2, hM2, hfr2⟩ := hp
  have hD2 := DeskAt_mv hD1 (fun _ _ => rfl) (fun j h => hfr2 j (Or.inl h))
  refine lv_icmp_eq (tgt := 690) hx hb dL_law_193 (by decide) (fun _ => ?_) (fun h => absurd (hr1.trans hr2.symm) h)
  exact W.widen (k := cells + 1) (n := slots + 6) (by omega) (by omega) (kk en2 _ _ _ H locs ls ⟨hok, Pok_sWants hpok (xs (i + 1)) (xs (i + 2)), hD2, ⟨0, hM2⟩, f, (hfr2 58 (Or.inr (by omega))).trans ((hfr1 58 (by omega)).trans hf)⟩ hw hl)
set_option maxRecDepth 100000 in
theorem lc_act {p : Program} {e : Env} {s : State} {m : MethodId} {below : List Frame} {meth : Method} {c : Code} (l : Launch) {b L : Nat} {xs : Nat → Int32} (hL : L ≤ 2560) (C0 : lw_At p s m meth c b L xs) {dC : Nat → ClassId} {dI : Nat → Nat → Nat} {q : ClassId × ClassId × ClassId × ClassId} {ad : Nat → Nat} {en : Nat → va_E} {A : Ast} {pl : Nat → Pst} {cs : Nat → Int32} (hI : lInv q ad en A pl cs) {i : Nat} (hi : i + 5 ≤ L) {H : Heap} {locs : List Loc} {ls : Array Slot} {cells slots : Nat} (hw : wk (dC, dI) vwCl (wT q) ad en 59 (fun q : Nat => s.heap.size ≤ q) s H locs) (hl : lv_has ls 8 [(0, .ref b), (1, .ref (ad 0)), (2, .ref (ad 42)), (3, .ref (ad 58)), (4, .int (nI i))]) (hcl : cells + 1 ≤ 601024) (hsl : slots + 6 ≤ 7293034) (kk : lKK p l e s m below meth c b dC dI q ad i cells slots) :
    W p l e room_1 s m #[Value.ref b] below meth c H locs cells slots (lw_Z below #[Value.ref b] s) (F0 m 198 ls []) := by
  obtain ⟨hx, hb, hr, hml, hown, hts0, hX, hbl, hlocks, hgv⟩ := C0
  have hb : c.code = cL_law := hb
  have hown : s.vm.findClass RL = some m.cls := hown
  have hts : ∀ w ∈ wsL_law, w.before #[Value.ref b] s = true := fun w h => hts0 w (wsL_law_in w h)
  have hbA : ¬ (fun q : Nat => s.heap.size ≤ q) b := Nat.not_le.mpr hbl
  obtain ⟨hok, hpok, hD, ⟨th, hM⟩, f, hf⟩ := hI
  obtain ⟨nb, tb, Z, ta, tw, tp, hC⟩ := id hD
  have he0 := hC.2.1
  refine lv_aload_n hx hb dL_law_198 rfl (lv_at hl 1 rfl) ?_
  refine r_scr hx hb hX hbl hbA hw.2.2.2.1 hL (lv_at hl 0 rfl) (lv_at hl 4 rfl) 1 (by omega) (by decide) dL_law_199 dL_law_200 dL_law_202 dL_law_203 dL_law_204 ?_
  refine r_scr hx hb hX hbl hbA hw.2.2.2.1 hL (lv_at hl 0 rfl) (lv_at hl 4 rfl) 2 (by omega) (by decide) dL_law_205 dL_law_206 dL_law_208 dL_law_209 dL_law_210 ?_
  refine r_scr hx hb hX hbl hbA hw.2.2.2.1 hL (lv_at hl 0 rfl) (lv_at hl 4 rfl) 3 (by omega) (by decide) dL_law_211 dL_law_212 dL_law_214 dL_law_215 dL_law_216 ?_
  refine wc_i hw (va_runV (As := [.int (xs (i + 1)), .int (xs (i + 2)), .int (xs (i + 3))]) (rest := []) ⟨hx, hb, hml, hown, hts⟩ (kX2_act l dC dI q ad en 59 _ (by omega) A pl cs hok hpok hD (xs (i + 1)) (xs (i + 2)) (xs (i + 3))) (cwV 3 hts gL_law_X2_act rfl rfl rfl (by decide +kernel) ⟨Nat.le_of_ble_eq_true rfl, Nat.le_of_ble_eq_true rfl⟩) (wk_preV hw (by omega) he0 rfl) rfl rfl hl.1 rfl (lv_room (Nat.le_of_ble_eq_true rfl)) dL_law_217 ⟨show _ + 0 ≤ 601024 by omega, show _ + 0 ≤ 7293034 by omega⟩) (fun r1 en1 H locs hp hw => ?_)
  obtain ⟨hr1, hD1, hfr1⟩ := hp
  have hM1 : ModAt q ad en1 th A pl cs := ModAt_mv hM (fun _ _ _ => rfl) (fun j h1 _ => hfr1 j h1)
  obtain ⟨O, an, wy, pla, hokO, hMC⟩ := id hM1
  have he42 := hMC.1
  refine lv_aload_n hx hb dL_law_220 rfl (lv_at hl 2 rfl) ?_
  refine r_scr hx hb hX hbl hbA hw.2.2.2.1 hL (lv_at hl 0 rfl) (lv_at hl 4 rfl) 1 (by omega) (by decide) dL_law_221 dL_law_222 dL_law_224 dL_law_225 dL_law_226 ?_
  refine r_scr hx hb hX hbl hbA hw.2.2.2.1 hL (lv_at hl 0 rfl) (lv_at hl 4 rfl) 2 (by omega) (by decide) dL_law_227 dL_law_228 dL_law_230 dL_law_231 dL_law_232 ?_
  refine r_scr hx hb hX hbl hbA hw.2.2.2.1 hL (lv_at hl 0 rfl) (lv_at hl 4 rfl) 3 (by omega) (by decide) dL_law_233 dL_law_234 dL_law_236 dL_law_237 dL_law_238 ?_
  refine wc_i hw (va_runV (As := [.int (xs (i + 1)), .int (xs (i + 2)), .int (xs (i + 3))]) (rest := [.int r1]) ⟨hx, hb, hml, hown, hts⟩ (kX3_act l dC dI q ad en1 59 _ (by omega) th A pl cs hok hpok hM1 (xs (i + 1)) (xs (i + 2)) (xs (i + 3))) (cwV 3 hts gL_law_X3_act rfl rfl rfl (by decide +kernel) ⟨Nat.le_of_ble_eq_true rfl, Nat.le_of_ble_eq_true rfl⟩) (wk_preV hw (by omega) he42 rfl) rfl rfl hl.1 rfl (lv_room (Nat.le_of_ble_eq_true rfl)) dL_law_239 ⟨show _ + 0 ≤ 601024 by omega, show _ + 0 ≤ 7293034 by omega⟩) (fun r2 en2 H locs hp hw => ?_)
  obtain ⟨hr2, hM2, hfr2⟩ := hp
  have hD2 := DeskAt_mv hD1 (fun _ _ => rfl) (fun j h => hfr2 j (Or.inl h))
  refine lv_icmp_eq (tgt := 690) hx hb dL_law_242 (by decide) (fun _ => ?_) (fun h => absurd (hr1.trans hr2.symm) h)
  exact W.widen (k := cells + 1) (n := slots + 6) (by omega) (by omega) (kk en2 _ _ _ H locs ls ⟨hok, Pok_sAct hpok (xs (i + 1)) (xs (i + 2)) (xs (i + 3)), hD2, ⟨0, hM2⟩, f, (hfr2 58 (Or.inr (by omega))).trans ((hfr1 58 (by omega)).trans hf)⟩ hw hl)
set_option maxRecDepth 100000 in
theorem lc_fails {p : Program} {e : Env} {s : State} {m : MethodId} {below : List Frame} {meth : Method} {c : Code} (l : Launch) {b L : Nat} {xs : Nat → Int32} (hL : L ≤ 2560) (C0 : lw_At p s m meth c b L xs) {dC : Nat → ClassId} {dI : Nat → Nat → Nat} {q : ClassId × ClassId × ClassId × ClassId} {ad : Nat → Nat} {en : Nat → va_E} {A : Ast} {pl : Nat → Pst} {cs : Nat → Int32} (hI : lInv q ad en A pl cs) {i : Nat} (hi : i + 5 ≤ L) {H : Heap} {locs : List Loc} {ls : Array Slot} {cells slots : Nat} (hw : wk (dC, dI) vwCl (wT q) ad en 59 (fun q : Nat => s.heap.size ≤ q) s H locs) (hl : lv_has ls 8 [(0, .ref b), (1, .ref (ad 0)), (2, .ref (ad 42)), (3, .ref (ad 58)), (4, .int (nI i))]) (hcl : cells + 1 ≤ 601024) (hsl : slots + 6 ≤ 7293034) (kk : lKK p l e s m below meth c b dC dI q ad i cells slots) :
    W p l e room_1 s m #[Value.ref b] below meth c H locs cells slots (lw_Z below #[Value.ref b] s) (F0 m 247 ls []) := by
  obtain ⟨hx, hb, hr, hml, hown, hts0, hX, hbl, hlocks, hgv⟩ := C0
  have hb : c.code = cL_law := hb
  have hown : s.vm.findClass RL = some m.cls := hown
  have hts : ∀ w ∈ wsL_law, w.before #[Value.ref b] s = true := fun w h => hts0 w (wsL_law_in w h)
  have hbA : ¬ (fun q : Nat => s.heap.size ≤ q) b := Nat.not_le.mpr hbl
  obtain ⟨hok, hpok, hD, ⟨th, hM⟩, f, hf⟩ := hI
  obtain ⟨nb, tb, Z, ta, tw, tp, hC⟩ := id hD
  have he0 := hC.2.1
  refine lv_aload_n hx hb dL_law_247 rfl (lv_at hl 1 rfl) ?_
  refine r_scr hx hb hX hbl hbA hw.2.2.2.1 hL (lv_at hl 0 rfl) (lv_at hl 4 rfl) 1 (by omega) (by decide) dL_law_248 dL_law_249 dL_law_251 dL_law_252 dL_law_253 ?_
  refine r_scr hx hb hX hbl hbA hw.2.2.2.1 hL (lv_at hl 0 rfl) (lv_at hl 4 rfl) 2 (by omega) (by decide) dL_law_254 dL_law_255 dL_law_257 dL_law_258 dL_law_259 ?_
  refine r_scr hx hb hX hbl hbA hw.2.2.2.1 hL (lv_at hl 0 rfl) (lv_at hl 4 rfl) 3 (by omega) (by decide) dL_law_260 dL_law_261 dL_law_263 dL_law_264 dL_law_265 ?_
  refine wc_i hw (va_runV (As := [.int (xs (i + 1)), .int (xs (i + 2)), .int (xs (i + 3))]) (rest := []) ⟨hx, hb, hml, hown, hts⟩ (kX2_fails l dC dI q ad en 59 _ (by omega) A pl cs hok hpok hD (xs (i + 1)) (xs (i + 2)) (xs (i + 3))) (cwV 3 hts gL_law_X2_fails rfl rfl rfl (by decide +kernel) ⟨Nat.le_of_ble_eq_true rfl, Nat.le_of_ble_eq_true rfl⟩) (wk_preV hw (by omega) he0 rfl) rfl rfl hl.1 rfl (lv_room (Nat.le_of_ble_eq_true rfl)) dL_law_266 ⟨show _ + 0 ≤ 601024 by omega, show _ + 0 ≤ 7293034 by omega⟩) (fun r1 en1 H locs hp hw => ?_)
  obtain ⟨hr1, hD1, hfr1⟩ := hp
  have hM1 : ModAt q ad en1 th A pl cs := ModAt_mv hM (fun _ _ _ => rfl) (fun j h1 _ => hfr1 j h1)
  obtain ⟨O, an, wy, pla, hokO, hMC⟩ := id hM1
  have he42 := hMC.1
  refine lv_aload_n hx hb dL_law_269 rfl (lv_at hl 2 rfl) ?_
  refine r_scr hx hb hX hbl hbA hw.2.2.2.1 hL (lv_at hl 0 rfl) (lv_at hl 4 rfl) 1 (by omega) (by decide) dL_law_270 dL_law_271 dL_law_273 dL_law_274 dL_law_275 ?_
  refine r_scr hx hb hX hbl hbA hw.2.2.2.1 hL (lv_at hl 0 rfl) (lv_at hl 4 rfl) 2 (by omega) (by decide) dL_law_276 dL_law_277 dL_law_279 dL_law_280 dL_law_281 ?_
  refine r_scr hx hb hX hbl hbA hw.2.2.2.1 hL (lv_at hl 0 rfl) (lv_at hl 4 rfl) 3 (by omega) (by decide) dL_law_282 dL_law_283 dL_law_285 dL_law_286 dL_law_287 ?_
  refine wc_i hw (va_runV (As := [.int (xs (i + 1)), .int (xs (i + 2)), .int (xs (i + 3))]) (rest := [.int r1]) ⟨hx, hb, hml, hown, hts⟩ (kX3_fails l dC dI q ad en1 59 _ (by omega) th A pl cs hok hpok hM1 (xs (i + 1)) (xs (i + 2)) (xs (i + 3))) (cwV 3 hts gL_law_X3_fails rfl rfl rfl (by decide +kernel) ⟨Nat.le_of_ble_eq_true rfl, Nat.le_of_ble_eq_true rfl⟩) (wk_preV hw (by omega) he42 rfl) rfl rfl hl.1 rfl (lv_room (Nat.le_of_ble_eq_true rfl)) dL_law_288 ⟨show _ + 0 ≤ 601024 by omega, show _ + 0 ≤ 7293034 by omega⟩) (fun r2 en2 H locs hp hw => ?_)
  obtain ⟨hr2, hM2, hfr2⟩ := hp
  have hD2 := DeskAt_mv hD1 (fun _ _ => rfl) (fun j h => hfr2 j (Or.inl h))
  refine lv_icmp_eq (tgt := 690) hx hb dL_law_291 (by decide) (fun _ => ?_) (fun h => absurd (hr1.trans hr2.symm) h)
  exact W.widen (k := cells + 1) (n := slots + 6) (by omega) (by omega) (kk en2 _ _ _ H locs ls ⟨hok, Pok_sFails hpok (xs (i + 1)) (xs (i + 2)) (xs (i + 3)), hD2, ⟨0, hM2⟩, f, (hfr2 58 (Or.inr (by omega))).trans ((hfr1 58 (by omega)).trans hf)⟩ hw hl)
set_option maxRecDepth 100000 in
theorem lc_make {p : Program} {e : Env} {s : State} {m : MethodId} {below : List Frame} {meth : Method} {c : Code} (l : Launch) {b L : Nat} {xs : Nat → Int32} (hL : L ≤ 2560) (C0 : lw_At p s m meth c b L xs) {dC : Nat → ClassId} {dI : Nat → Nat → Nat} {q : ClassId × ClassId × ClassId × ClassId} {ad : Nat → Nat} {en : Nat → va_E} {A : Ast} {pl : Nat → Pst} {cs : Nat → Int32} (hI : lInv q ad en A pl cs) {i : Nat} (hi : i + 5 ≤ L) {H : Heap} {locs : List Loc} {ls : Array Slot} {cells slots : Nat} (hw : wk (dC, dI) vwCl (wT q) ad en 59 (fun q : Nat => s.heap.size ≤ q) s H locs) (hl : lv_has ls 8 [(0, .ref b), (1, .ref (ad 0)), (2, .ref (ad 42)), (3, .ref (ad 58)), (4, .int (nI i))]) (hcl : cells + 1 ≤ 601024) (hsl : slots + 6 ≤ 7293034) (kk : lKK p l e s m below meth c b dC dI q ad i cells slots) :
    W p l e room_1 s m #[Value.ref b] below meth c H locs cells slots (lw_Z below #[Value.ref b] s) (F0 m 296 ls []) := by
  obtain ⟨hx, hb, hr, hml, hown, hts0, hX, hbl, hlocks, hgv⟩ := C0
  have hb : c.code = cL_law := hb
  have hown : s.vm.findClass RL = some m.cls := hown
  have hts : ∀ w ∈ wsL_law, w.before #[Value.ref b] s = true := fun w h => hts0 w (wsL_law_in w h)
  have hbA : ¬ (fun q : Nat => s.heap.size ≤ q) b := Nat.not_le.mpr hbl
  obtain ⟨hok, hpok, hD, ⟨th, hM⟩, f, hf⟩ := hI
  obtain ⟨nb, tb, Z, ta, tw, tp, hC⟩ := id hD
  have he0 := hC.2.1
  refine lv_aload_n hx hb dL_law_296 rfl (lv_at hl 1 rfl) ?_
  refine r_scr hx hb hX hbl hbA hw.2.2.2.1 hL (lv_at hl 0 rfl) (lv_at hl 4 rfl) 1 (by omega) (by decide) dL_law_297 dL_law_298 dL_law_300 dL_law_301 dL_law_302 ?_
  refine wc_i hw (va_runV (As := [.int (xs (i + 1))]) (rest := []) ⟨hx, hb, hml, hown, hts⟩ (kX2_make l dC dI q ad en 59 _ (by omega) A pl cs hok hpok hD (xs (i + 1))) (cwV 1 hts gL_law_X2_make rfl rfl rfl (by decide +kernel) ⟨Nat.le_of_ble_eq_true rfl, Nat.le_of_ble_eq_true rfl⟩) (wk_preV hw (by omega) he0 rfl) rfl rfl hl.1 rfl (lv_room (Nat.le_of_ble_eq_true rfl)) dL_law_303 ⟨show _ + 0 ≤ 601024 by omega, show _ + 0 ≤ 7293034 by omega⟩) (fun r1 en1 H locs hp hw => ?_)
  obtain ⟨hr1, hD1, hfr1⟩ := hp
  have hM1 : ModAt q ad en1 th A pl cs := ModAt_mv hM (fun _ _ _ => rfl) (fun j h1 _ => hfr1 j h1)
  obtain ⟨O, an, wy, pla, hokO, hMC⟩ := id hM1
  have he42 := hMC.1
  refine lv_aload_n hx hb dL_law_306 rfl (lv_at hl 2 rfl) ?_
  refine r_scr hx hb hX hbl hbA hw.2.2.2.1 hL (lv_at hl 0 rfl) (lv_at hl 4 rfl) 1 (by omega) (by decide) dL_law_307 dL_law_308 dL_law_310 dL_law_311 dL_law_312 ?_
  refine wc_i hw (va_runV (As := [.int (xs (i + 1))]) (rest := [.int r1]) ⟨hx, hb, hml, hown, hts⟩ (kX3_make l dC dI q ad en1 59 _ (by omega) th A pl cs hok hpok hM1 (xs (i + 1))) (cwV 1 hts gL_law_X3_make rfl rfl rfl (by decide +kernel) ⟨Nat.le_of_ble_eq_true rfl, Nat.le_of_ble_eq_true rfl⟩) (wk_preV hw (by omega) he42 rfl) rfl rfl hl.1 rfl (lv_room (Nat.le_of_ble_eq_true rfl)) dL_law_313 ⟨show _ + 0 ≤ 601024 by omega, show _ + 0 ≤ 7293034 by omega⟩) (fun r2 en2 H locs hp hw => ?_)
  obtain ⟨hr2, hM2, hfr2⟩ := hp
  have hD2 := DeskAt_mv hD1 (fun _ _ => rfl) (fun j h => hfr2 j (Or.inl h))
  refine lv_icmp_eq (tgt := 690) hx hb dL_law_316 (by decide) (fun _ => ?_) (fun h => absurd (hr1.trans hr2.symm) h)
  exact W.widen (k := cells + 1) (n := slots + 6) (by omega) (by omega) (kk en2 _ _ _ H locs ls ⟨Aok_sMake hok _, hpok, hD2, ⟨0, hM2⟩, f, (hfr2 58 (Or.inr (by omega))).trans ((hfr1 58 (by omega)).trans hf)⟩ hw hl)
set_option maxRecDepth 100000 in
theorem lc_drop {p : Program} {e : Env} {s : State} {m : MethodId} {below : List Frame} {meth : Method} {c : Code} (l : Launch) {b L : Nat} {xs : Nat → Int32} (hL : L ≤ 2560) (C0 : lw_At p s m meth c b L xs) {dC : Nat → ClassId} {dI : Nat → Nat → Nat} {q : ClassId × ClassId × ClassId × ClassId} {ad : Nat → Nat} {en : Nat → va_E} {A : Ast} {pl : Nat → Pst} {cs : Nat → Int32} (hI : lInv q ad en A pl cs) {i : Nat} (hi : i + 5 ≤ L) {H : Heap} {locs : List Loc} {ls : Array Slot} {cells slots : Nat} (hw : wk (dC, dI) vwCl (wT q) ad en 59 (fun q : Nat => s.heap.size ≤ q) s H locs) (hl : lv_has ls 8 [(0, .ref b), (1, .ref (ad 0)), (2, .ref (ad 42)), (3, .ref (ad 58)), (4, .int (nI i))]) (hcl : cells + 1 ≤ 601024) (hsl : slots + 6 ≤ 7293034) (kk : lKK p l e s m below meth c b dC dI q ad i cells slots) :
    W p l e room_1 s m #[Value.ref b] below meth c H locs cells slots (lw_Z below #[Value.ref b] s) (F0 m 321 ls []) := by
  obtain ⟨hx, hb, hr, hml, hown, hts0, hX, hbl, hlocks, hgv⟩ := C0
  have hb : c.code = cL_law := hb
  have hown : s.vm.findClass RL = some m.cls := hown
  have hts : ∀ w ∈ wsL_law, w.before #[Value.ref b] s = true := fun w h => hts0 w (wsL_law_in w h)
  have hbA : ¬ (fun q : Nat => s.heap.size ≤ q) b := Nat.not_le.mpr hbl
  obtain ⟨hok, hpok, hD, ⟨th, hM⟩, f, hf⟩ := hI
  obtain ⟨nb, tb, Z, ta, tw, tp, hC⟩ := id hD
  have he0 := hC.2.1
  refine lv_aload_n hx hb dL_law_321 rfl (lv_at hl 1 rfl) ?_
  refine r_scr hx hb hX hbl hbA hw.2.2.2.1 hL (lv_at hl 0 rfl) (lv_at hl 4 rfl) 1 (by omega) (by decide) dL_law_322 dL_law_323 dL_law_325 dL_law_326 dL_law_327 ?_
  refine r_scr hx hb hX hbl hbA hw.2.2.2.1 hL (lv_at hl 0 rfl) (lv_at hl 4 rfl) 2 (by omega) (by decide) dL_law_328 dL_law_329 dL_law_331 dL_law_332 dL_law_333 ?_
  refine wc_i hw (va_runV (As := [.int (xs (i + 1)), .int (xs (i + 2))]) (rest := []) ⟨hx, hb, hml, hown, hts⟩ (kX2_drop l dC dI q ad en 59 _ (by omega) A pl cs hok hpok hD (xs (i + 1)) (xs (i + 2))) (cwV 2 hts gL_law_X2_drop rfl rfl rfl (by decide +kernel) ⟨Nat.le_of_ble_eq_true rfl, Nat.le_of_ble_eq_true rfl⟩) (wk_preV hw (by omega) he0 rfl) rfl rfl hl.1 rfl (lv_room (Nat.le_of_ble_eq_true rfl)) dL_law_334 ⟨show _ + 0 ≤ 601024 by omega, show _ + 0 ≤ 7293034 by omega⟩) (fun r1 en1 H locs hp hw => ?_)
  obtain ⟨hr1, hD1, hfr1⟩ := hp
  have hM1 : ModAt q ad en1 th A pl cs := ModAt_mv hM (fun _ _ _ => rfl) (fun j h1 _ => hfr1 j h1)
  obtain ⟨O, an, wy, pla, hokO, hMC⟩ := id hM1
  have he42 := hMC.1
  refine lv_aload_n hx hb dL_law_337 rfl (lv_at hl 2 rfl) ?_
  refine r_scr hx hb hX hbl hbA hw.2.2.2.1 hL (lv_at hl 0 rfl) (lv_at hl 4 rfl) 1 (by omega) (by decide) dL_law_338 dL_law_339 dL_law_341 dL_law_342 dL_law_343 ?_
  refine r_scr hx hb hX hbl hbA hw.2.2.2.1 hL (lv_at hl 0 rfl) (lv_at hl 4 rfl) 2 (by omega) (by decide) dL_law_344 dL_law_345 dL_law_347 dL_law_348 dL_law_349 ?_
  refine wc_i hw (va_runV (As := [.int (xs (i + 1)), .int (xs (i + 2))]) (rest := [.int r1]) ⟨hx, hb, hml, hown, hts⟩ (kX3_drop l dC dI q ad en1 59 _ (by omega) th A pl cs hok hpok hM1 (xs (i + 1)) (xs (i + 2))) (cwV 2 hts gL_law_X3_drop rfl rfl rfl (by decide +kernel) ⟨Nat.le_of_ble_eq_true rfl, Nat.le_of_ble_eq_true rfl⟩) (wk_preV hw (by omega) he42 rfl) rfl rfl hl.1 rfl (lv_room (Nat.le_of_ble_eq_true rfl)) dL_law_350 ⟨show _ + 0 ≤ 601024 by omega, show _ + 0 ≤ 7293034 by omega⟩) (fun r2 en2 H locs hp hw => ?_)
  obtain ⟨hr2, hM2, hfr2⟩ := hp
  have hD2 := DeskAt_mv hD1 (fun _ _ => rfl) (fun j h => hfr2 j (Or.inl h))
  refine lv_icmp_eq (tgt := 690) hx hb dL_law_353 (by decide) (fun _ => ?_) (fun h => absurd (hr1.trans hr2.symm) h)
  exact W.widen (k := cells + 1) (n := slots + 6) (by omega) (by omega) (kk en2 _ _ _ H locs ls ⟨Aok_aDropI hok _ _, hpok, hD2, ⟨0, hM2⟩, f, (hfr2 58 (Or.inr (by omega))).trans ((hfr1 58 (by omega)).trans hf)⟩ hw hl)
set_option maxRecDepth 100000 in
theorem lc_call {p : Program} {e : Env} {s : State} {m : MethodId} {below : List Frame} {meth : Method} {c : Code} (l : Launch) {b L : Nat} {xs : Nat → Int32} (hL : L ≤ 2560) (C0 : lw_At p s m meth c b L xs) {dC : Nat → ClassId} {dI : Nat → Nat → Nat} {q : ClassId × ClassId × ClassId × ClassId} {ad : Nat → Nat} {en : Nat → va_E} {A : Ast} {pl : Nat → Pst} {cs : Nat → Int32} (hI : lInv q ad en A pl cs) {i : Nat} (hi : i + 5 ≤ L) {H : Heap} {locs : List Loc} {ls : Array Slot} {cells slots : Nat} (hw : wk (dC, dI) vwCl (wT q) ad en 59 (fun q : Nat => s.heap.size ≤ q) s H locs) (hl : lv_has ls 8 [(0, .ref b), (1, .ref (ad 0)), (2, .ref (ad 42)), (3, .ref (ad 58)), (4, .int (nI i))]) (hcl : cells + 1 ≤ 601024) (hsl : slots + 6 ≤ 7293034) (kk : lKK p l e s m below meth c b dC dI q ad i cells slots) :
    W p l e room_1 s m #[Value.ref b] below meth c H locs cells slots (lw_Z below #[Value.ref b] s) (F0 m 358 ls []) := by
  obtain ⟨hx, hb, hr, hml, hown, hts0, hX, hbl, hlocks, hgv⟩ := C0
  have hb : c.code = cL_law := hb
  have hown : s.vm.findClass RL = some m.cls := hown
  have hts : ∀ w ∈ wsL_law, w.before #[Value.ref b] s = true := fun w h => hts0 w (wsL_law_in w h)
  have hbA : ¬ (fun q : Nat => s.heap.size ≤ q) b := Nat.not_le.mpr hbl
  obtain ⟨hok, hpok, hD, ⟨th, hM⟩, f, hf⟩ := hI
  obtain ⟨nb, tb, Z, ta, tw, tp, hC⟩ := id hD
  have he0 := hC.2.1
  refine lv_aload_n hx hb dL_law_358 rfl (lv_at hl 1 rfl) ?_
  refine r_scr hx hb hX hbl hbA hw.2.2.2.1 hL (lv_at hl 0 rfl) (lv_at hl 4 rfl) 1 (by omega) (by decide) dL_law_359 dL_law_360 dL_law_362 dL_law_363 dL_law_364 ?_
  refine r_scr hx hb hX hbl hbA hw.2.2.2.1 hL (lv_at hl 0 rfl) (lv_at hl 4 rfl) 2 (by omega) (by decide) dL_law_365 dL_law_366 dL_law_368 dL_law_369 dL_law_370 ?_
  refine r_long hx hb hown (hts (.constantLong RL 19 4294967295) (by decide +kernel)) hX hbl hbA hw.2.2.2.1 hL (lv_at hl 0 rfl) (lv_at hl 4 rfl) 3 4 (by omega) (by omega) (by decide) (by decide) dL_law_371 dL_law_372 dL_law_374 dL_law_375 dL_law_376 dL_law_377 dL_law_378 dL_law_380 dL_law_381 dL_law_382 dL_law_384 dL_law_385 dL_law_386 dL_law_387 dL_law_388 dL_law_391 dL_law_392 ?_
  refine wc_l hw (va_runV (As := [.int (xs (i + 1)), .int (xs (i + 2)), .long (lng (xs (i + 3)) (xs (i + 4)))]) (rest := []) ⟨hx, hb, hml, hown, hts⟩ (kX2_call l dC dI q ad en 59 _ (by omega) A pl cs hok hpok hD (xs (i + 1)) (xs (i + 2)) (lng (xs (i + 3)) (xs (i + 4)))) (cwV 3 hts gL_law_X2_call rfl rfl rfl (by decide +kernel) ⟨Nat.le_of_ble_eq_true rfl, Nat.le_of_ble_eq_true rfl⟩) (wk_preV hw (by omega) he0 rfl) rfl rfl hl.1 rfl (lv_room (Nat.le_of_ble_eq_true rfl)) dL_law_393 ⟨show _ + 0 ≤ 601024 by omega, show _ + 0 ≤ 7293034 by omega⟩) (fun r1 en1 H locs hp hw => ?_)
  obtain ⟨hr1, hD1, hfr1⟩ := hp
  have hM1 : ModAt q ad en1 th A pl cs := ModAt_mv hM (fun _ _ _ => rfl) (fun j h1 _ => hfr1 j h1)
  obtain ⟨O, an, wy, pla, hokO, hMC⟩ := id hM1
  have he42 := hMC.1
  refine lv_aload_n hx hb dL_law_396 rfl (lv_at hl 2 rfl) ?_
  refine r_scr hx hb hX hbl hbA hw.2.2.2.1 hL (lv_at hl 0 rfl) (lv_at hl 4 rfl) 1 (by omega) (by decide) dL_law_397 dL_law_398 dL_law_400 dL_law_401 dL_law_402 ?_
  refine r_scr hx hb hX hbl hbA hw.2.2.2.1 hL (lv_at hl 0 rfl) (lv_at hl 4 rfl) 2 (by omega) (by decide) dL_law_403 dL_law_404 dL_law_406 dL_law_407 dL_law_408 ?_
  refine r_long hx hb hown (hts (.constantLong RL 19 4294967295) (by decide +kernel)) hX hbl hbA hw.2.2.2.1 hL (lv_at hl 0 rfl) (lv_at hl 4 rfl) 3 4 (by omega) (by omega) (by decide) (by decide) dL_law_409 dL_law_410 dL_law_412 dL_law_413 dL_law_414 dL_law_415 dL_law_416 dL_law_418 dL_law_419 dL_law_420 dL_law_422 dL_law_423 dL_law_424 dL_law_425 dL_law_426 dL_law_429 dL_law_430 ?_
  refine wc_l hw (va_runV (As := [.int (xs (i + 1)), .int (xs (i + 2)), .long (lng (xs (i + 3)) (xs (i + 4)))]) (rest := [.long r1]) ⟨hx, hb, hml, hown, hts⟩ (kX3_call l dC dI q ad en1 59 _ (by omega) th A pl cs hok hpok hM1 (xs (i + 1)) (xs (i + 2)) (lng (xs (i + 3)) (xs (i + 4)))) (cwV 3 hts gL_law_X3_call rfl rfl rfl (by decide +kernel) ⟨Nat.le_of_ble_eq_true rfl, Nat.le_of_ble_eq_true rfl⟩) (wk_preV hw (by omega) he42 rfl) rfl rfl hl.1 rfl (lv_room (Nat.le_of_ble_eq_true rfl)) dL_law_431 ⟨show _ + 0 ≤ 601024 by omega, show _ + 0 ≤ 7293034 by omega⟩) (fun r2 en2 H locs hp hw => ?_)
  obtain ⟨hr2, hM2, hfr2⟩ := hp
  have hD2 := DeskAt_mv hD1 (fun _ _ => rfl) (fun j h => hfr2 j (Or.inl h))
  refine W.lcmp hx hb dL_law_434 ?_
  refine lv_if_eq (tgt := 690) hx hb dL_law_435 (by decide) (fun _ => ?_) (fun h => absurd ((lg_cmp_eq _ _).mpr (hr1.trans hr2.symm)) h)
  exact W.widen (k := cells + 1) (n := slots + 6) (by omega) (by omega) (kk en2 _ _ _ H locs ls ⟨Aok_sCallA hok _ _ _ pl, Pok_sCallP hpok _ _ _ A, hD2, ⟨0, hM2⟩, f, (hfr2 58 (Or.inr (by omega))).trans ((hfr1 58 (by omega)).trans hf)⟩ hw hl)
set_option maxRecDepth 100000 in
theorem lc_again {p : Program} {e : Env} {s : State} {m : MethodId} {below : List Frame} {meth : Method} {c : Code} (l : Launch) {b L : Nat} {xs : Nat → Int32} (hL : L ≤ 2560) (C0 : lw_At p s m meth c b L xs) {dC : Nat → ClassId} {dI : Nat → Nat → Nat} {q : ClassId × ClassId × ClassId × ClassId} {ad : Nat → Nat} {en : Nat → va_E} {A : Ast} {pl : Nat → Pst} {cs : Nat → Int32} (hI : lInv q ad en A pl cs) {i : Nat} (hi : i + 5 ≤ L) {H : Heap} {locs : List Loc} {ls : Array Slot} {cells slots : Nat} (hw : wk (dC, dI) vwCl (wT q) ad en 59 (fun q : Nat => s.heap.size ≤ q) s H locs) (hl : lv_has ls 8 [(0, .ref b), (1, .ref (ad 0)), (2, .ref (ad 42)), (3, .ref (ad 58)), (4, .int (nI i))]) (hcl : cells + 1 ≤ 601024) (hsl : slots + 6 ≤ 7293034) (kk : lKK p l e s m below meth c b dC dI q ad i cells slots) :
    W p l e room_1 s m #[Value.ref b] below meth c H locs cells slots (lw_Z below #[Value.ref b] s) (F0 m 440 ls []) := by
  obtain ⟨hx, hb, hr, hml, hown, hts0, hX, hbl, hlocks, hgv⟩ := C0
  have hb : c.code = cL_law := hb
  have hown : s.vm.findClass RL = some m.cls := hown
  have hts : ∀ w ∈ wsL_law, w.before #[Value.ref b] s = true := fun w h => hts0 w (wsL_law_in w h)
  have hbA : ¬ (fun q : Nat => s.heap.size ≤ q) b := Nat.not_le.mpr hbl
  obtain ⟨hok, hpok, hD, ⟨th, hM⟩, f, hf⟩ := hI
  obtain ⟨nb, tb, Z, ta, tw, tp, hC⟩ := id hD
  have he0 := hC.2.1
  refine lv_aload_n hx hb dL_law_440 rfl (lv_at hl 1 rfl) ?_
  refine r_scr hx hb hX hbl hbA hw.2.2.2.1 hL (lv_at hl 0 rfl) (lv_at hl 4 rfl) 1 (by omega) (by decide) dL_law_441 dL_law_442 dL_law_444 dL_law_445 dL_law_446 ?_
  refine r_scr hx hb hX hbl hbA hw.2.2.2.1 hL (lv_at hl 0 rfl) (lv_at hl 4 rfl) 2 (by omega) (by decide) dL_law_447 dL_law_448 dL_law_450 dL_law_451 dL_law_452 ?_
  refine r_long hx hb hown (hts (.constantLong RL 19 4294967295) (by decide +kernel)) hX hbl hbA hw.2.2.2.1 hL (lv_at hl 0 rfl) (lv_at hl 4 rfl) 3 4 (by omega) (by omega) (by decide) (by decide) dL_law_453 dL_law_454 dL_law_456 dL_law_457 dL_law_458 dL_law_459 dL_law_460 dL_law_462 dL_law_463 dL_law_464 dL_law_466 dL_law_467 dL_law_468 dL_law_469 dL_law_470 dL_law_473 dL_law_474 ?_
  refine wc_l hw (va_runV (As := [.int (xs (i + 1)), .int (xs (i + 2)), .long (lng (xs (i + 3)) (xs (i + 4)))]) (rest := []) ⟨hx, hb, hml, hown, hts⟩ (kX2_again l dC dI q ad en 59 _ (by omega) A pl cs hok hpok hD (xs (i + 1)) (xs (i + 2)) (lng (xs (i + 3)) (xs (i + 4)))) (cwV 3 hts gL_law_X2_again rfl rfl rfl (by decide +kernel) ⟨Nat.le_of_ble_eq_true rfl, Nat.le_of_ble_eq_true rfl⟩) (wk_preV hw (by omega) he0 rfl) rfl rfl hl.1 rfl (lv_room (Nat.le_of_ble_eq_true rfl)) dL_law_475 ⟨show _ + 0 ≤ 601024 by omega, show _ + 0 ≤ 7293034 by omega⟩) (fun r1 en1 H locs hp hw => ?_)
  obtain ⟨hr1, hD1, hfr1⟩ := hp
  have hM1 : ModAt q ad en1 th A pl cs := ModAt_mv hM (fun _ _ _ => rfl) (fun j h1 _ => hfr1 j h1)
  obtain ⟨O, an, wy, pla, hokO, hMC⟩ := id hM1
  have he42 := hMC.1
  refine lv_aload_n hx hb dL_law_478 rfl (lv_at hl 2 rfl) ?_
  refine r_scr hx hb hX hbl hbA hw.2.2.2.1 hL (lv_at hl 0 rfl) (lv_at hl 4 rfl) 1 (by omega) (by decide) dL_law_479 dL_law_480 dL_law_482 dL_law_483 dL_law_484 ?_
  refine r_scr hx hb hX hbl hbA hw.2.2.2.1 hL (lv_at hl 0 rfl) (lv_at hl 4 rfl) 2 (by omega) (by decide) dL_law_485 dL_law_486 dL_law_488 dL_law_489 dL_law_490 ?_
  refine r_long hx hb hown (hts (.constantLong RL 19 4294967295) (by decide +kernel)) hX hbl hbA hw.2.2.2.1 hL (lv_at hl 0 rfl) (lv_at hl 4 rfl) 3 4 (by omega) (by omega) (by decide) (by decide) dL_law_491 dL_law_492 dL_law_494 dL_law_495 dL_law_496 dL_law_497 dL_law_498 dL_law_500 dL_law_501 dL_law_502 dL_law_504 dL_law_505 dL_law_506 dL_law_507 dL_law_508 dL_law_511 dL_law_512 ?_
  refine wc_l hw (va_runV (As := [.int (xs (i + 1)), .int (xs (i + 2)), .long (lng (xs (i + 3)) (xs (i + 4)))]) (rest := [.long r1]) ⟨hx, hb, hml, hown, hts⟩ (kX3_again l dC dI q ad en1 59 _ (by omega) th A pl cs hok hpok hM1 (xs (i + 1)) (xs (i + 2)) (lng (xs (i + 3)) (xs (i + 4)))) (cwV 3 hts gL_law_X3_again rfl rfl rfl (by decide +kernel) ⟨Nat.le_of_ble_eq_true rfl, Nat.le_of_ble_eq_true rfl⟩) (wk_preV hw (by omega) he42 rfl) rfl rfl hl.1 rfl (lv_room (Nat.le_of_ble_eq_true rfl)) dL_law_513 ⟨show _ + 0 ≤ 601024 by omega, show _ + 0 ≤ 7293034 by omega⟩) (fun r2 en2 H locs hp hw => ?_)
  obtain ⟨hr2, hM2, hfr2⟩ := hp
  have hD2 := DeskAt_mv hD1 (fun _ _ => rfl) (fun j h => hfr2 j (Or.inl h))
  refine W.lcmp hx hb dL_law_516 ?_
  refine lv_if_eq (tgt := 690) hx hb dL_law_517 (by decide) (fun _ => ?_) (fun h => absurd ((lg_cmp_eq _ _).mpr (hr1.trans hr2.symm)) h)
  exact W.widen (k := cells + 1) (n := slots + 6) (by omega) (by omega) (kk en2 _ _ _ H locs ls ⟨hok, hpok, hD2, ⟨0, hM2⟩, f, (hfr2 58 (Or.inr (by omega))).trans ((hfr1 58 (by omega)).trans hf)⟩ hw hl)
set_option maxRecDepth 100000 in
theorem lc_told {p : Program} {e : Env} {s : State} {m : MethodId} {below : List Frame} {meth : Method} {c : Code} (l : Launch) {b L : Nat} {xs : Nat → Int32} (hL : L ≤ 2560) (C0 : lw_At p s m meth c b L xs) {dC : Nat → ClassId} {dI : Nat → Nat → Nat} {q : ClassId × ClassId × ClassId × ClassId} {ad : Nat → Nat} {en : Nat → va_E} {A : Ast} {pl : Nat → Pst} {cs : Nat → Int32} (hI : lInv q ad en A pl cs) {i : Nat} (hi : i + 5 ≤ L) {H : Heap} {locs : List Loc} {ls : Array Slot} {cells slots : Nat} (hw : wk (dC, dI) vwCl (wT q) ad en 59 (fun q : Nat => s.heap.size ≤ q) s H locs) (hl : lv_has ls 8 [(0, .ref b), (1, .ref (ad 0)), (2, .ref (ad 42)), (3, .ref (ad 58)), (4, .int (nI i))]) (hcl : cells + 1 ≤ 601024) (hsl : slots + 6 ≤ 7293034) (kk : lKK p l e s m below meth c b dC dI q ad i cells slots) :
    W p l e room_1 s m #[Value.ref b] below meth c H locs cells slots (lw_Z below #[Value.ref b] s) (F0 m 522 ls []) := by
  obtain ⟨hx, hb, hr, hml, hown, hts0, hX, hbl, hlocks, hgv⟩ := C0
  have hb : c.code = cL_law := hb
  have hown : s.vm.findClass RL = some m.cls := hown
  have hts : ∀ w ∈ wsL_law, w.before #[Value.ref b] s = true := fun w h => hts0 w (wsL_law_in w h)
  have hbA : ¬ (fun q : Nat => s.heap.size ≤ q) b := Nat.not_le.mpr hbl
  obtain ⟨hok, hpok, hD, ⟨th, hM⟩, f, hf⟩ := hI
  obtain ⟨nb, tb, Z, ta, tw, tp, hC⟩ := id hD
  have he0 := hC.2.1
  refine lv_aload_n hx hb dL_law_522 rfl (lv_at hl 1 rfl) ?_
  refine r_scr hx hb hX hbl hbA hw.2.2.2.1 hL (lv_at hl 0 rfl) (lv_at hl 4 rfl) 1 (by omega) (by decide) dL_law_523 dL_law_524 dL_law_526 dL_law_527 dL_law_528 ?_
  refine wc_i hw (va_runV (As := [.int (xs (i + 1))]) (rest := []) ⟨hx, hb, hml, hown, hts⟩ (kX2_told l dC dI q ad en 59 _ (by omega) A pl cs hok hpok hD (xs (i + 1))) (cwV 1 hts gL_law_X2_told rfl rfl rfl (by decide +kernel) ⟨Nat.le_of_ble_eq_true rfl, Nat.le_of_ble_eq_true rfl⟩) (wk_preV hw (by omega) he0 rfl) rfl rfl hl.1 rfl (lv_room (Nat.le_of_ble_eq_true rfl)) dL_law_529 ⟨show _ + 0 ≤ 601024 by omega, show _ + 0 ≤ 7293034 by omega⟩) (fun r1 en1 H locs hp hw => ?_)
  obtain ⟨hr1, hn1⟩ := hp
  have hD1 : DeskAt q ad en1 A pl cs := by rw [hn1]; exact hD
  have hfr1 : ∀ j, 42 ≤ j → en1 j = en j := fun j _ => by rw [hn1]
  have hM1 : ModAt q ad en1 th A pl cs := ModAt_mv hM (fun _ _ _ => rfl) (fun j h1 _ => hfr1 j h1)
  obtain ⟨O, an, wy, pla, hokO, hMC⟩ := id hM1
  have he42 := hMC.1
  refine lv_aload_n hx hb dL_law_532 rfl (lv_at hl 2 rfl) ?_
  refine r_scr hx hb hX hbl hbA hw.2.2.2.1 hL (lv_at hl 0 rfl) (lv_at hl 4 rfl) 1 (by omega) (by decide) dL_law_533 dL_law_534 dL_law_536 dL_law_537 dL_law_538 ?_
  refine wc_i hw (va_runV (As := [.int (xs (i + 1))]) (rest := [.int r1]) ⟨hx, hb, hml, hown, hts⟩ (kX3_told l dC dI q ad en1 59 _ (by omega) th A pl cs hok hpok hM1 (xs (i + 1))) (cwV 1 hts gL_law_X3_told rfl rfl rfl (by decide +kernel) ⟨Nat.le_of_ble_eq_true rfl, Nat.le_of_ble_eq_true rfl⟩) (wk_preV hw (by omega) he42 rfl) rfl rfl hl.1 rfl (lv_room (Nat.le_of_ble_eq_true rfl)) dL_law_539 ⟨show _ + 0 ≤ 601024 by omega, show _ + 0 ≤ 7293034 by omega⟩) (fun r2 en2 H locs hp hw => ?_)
  obtain ⟨hr2, hM2, hfr2⟩ := hp
  have hD2 := DeskAt_mv hD1 (fun _ _ => rfl) (fun j h => hfr2 j (Or.inl h))
  refine lv_icmp_eq (tgt := 690) hx hb dL_law_542 (by decide) (fun _ => ?_) (fun h => absurd (hr1.trans hr2.symm) h)
  exact W.widen (k := cells + 1) (n := slots + 6) (by omega) (by omega) (kk en2 _ _ _ H locs ls ⟨hok, hpok, hD2, ⟨0, hM2⟩, f, (hfr2 58 (Or.inr (by omega))).trans ((hfr1 58 (by omega)).trans hf)⟩ hw hl)
set_option maxRecDepth 100000 in
theorem lc_numbers {p : Program} {e : Env} {s : State} {m : MethodId} {below : List Frame} {meth : Method} {c : Code} (l : Launch) {b L : Nat} {xs : Nat → Int32} (hL : L ≤ 2560) (C0 : lw_At p s m meth c b L xs) {dC : Nat → ClassId} {dI : Nat → Nat → Nat} {q : ClassId × ClassId × ClassId × ClassId} {ad : Nat → Nat} {en : Nat → va_E} {A : Ast} {pl : Nat → Pst} {cs : Nat → Int32} (hI : lInv q ad en A pl cs) {i : Nat} (hi : i + 5 ≤ L) {H : Heap} {locs : List Loc} {ls : Array Slot} {cells slots : Nat} (hw : wk (dC, dI) vwCl (wT q) ad en 59 (fun q : Nat => s.heap.size ≤ q) s H locs) (hl : lv_has ls 8 [(0, .ref b), (1, .ref (ad 0)), (2, .ref (ad 42)), (3, .ref (ad 58)), (4, .int (nI i))]) (hcl : cells + 1 ≤ 601024) (hsl : slots + 6 ≤ 7293034) (kk : lKK p l e s m below meth c b dC dI q ad i cells slots) :
    W p l e room_1 s m #[Value.ref b] below meth c H locs cells slots (lw_Z below #[Value.ref b] s) (F0 m 547 ls []) := by
  obtain ⟨hx, hb, hr, hml, hown, hts0, hX, hbl, hlocks, hgv⟩ := C0
  have hb : c.code = cL_law := hb
  have hown : s.vm.findClass RL = some m.cls := hown
  have hts : ∀ w ∈ wsL_law, w.before #[Value.ref b] s = true := fun w h => hts0 w (wsL_law_in w h)
  have hbA : ¬ (fun q : Nat => s.heap.size ≤ q) b := Nat.not_le.mpr hbl
  obtain ⟨hok, hpok, hD, ⟨th, hM⟩, f, hf⟩ := hI
  obtain ⟨nb, tb, Z, ta, tw, tp, hC⟩ := id hD
  have he0 := hC.2.1
  refine lv_aload_n hx hb dL_law_547 rfl (lv_at hl 1 rfl) ?_
  refine r_scr hx hb hX hbl hbA hw.2.2.2.1 hL (lv_at hl 0 rfl) (lv_at hl 4 rfl) 1 (by omega) (by decide) dL_law_548 dL_law_549 dL_law_551 dL_law_552 dL_law_553 ?_
  refine wc_i hw (va_runV (As := [.int (xs (i + 1))]) (rest := []) ⟨hx, hb, hml, hown, hts⟩ (kX2_numbers l dC dI q ad en 59 _ (by omega) A pl cs hok hpok hD (xs (i + 1))) (cwV 1 hts gL_law_X2_numbers rfl rfl rfl (by decide +kernel) ⟨Nat.le_of_ble_eq_true rfl, Nat.le_of_ble_eq_true rfl⟩) (wk_preV hw (by omega) he0 rfl) rfl rfl hl.1 rfl (lv_room (Nat.le_of_ble_eq_true rfl)) dL_law_554 ⟨show _ + 0 ≤ 601024 by omega, show _ + 0 ≤ 7293034 by omega⟩) (fun r1 en1 H locs hp hw => ?_)
  obtain ⟨hr1, hn1⟩ := hp
  have hD1 : DeskAt q ad en1 A pl cs := by rw [hn1]; exact hD
  have hfr1 : ∀ j, 42 ≤ j → en1 j = en j := fun j _ => by rw [hn1]
  have hM1 : ModAt q ad en1 th A pl cs := ModAt_mv hM (fun _ _ _ => rfl) (fun j h1 _ => hfr1 j h1)
  obtain ⟨O, an, wy, pla, hokO, hMC⟩ := id hM1
  have he42 := hMC.1
  refine lv_aload_n hx hb dL_law_557 rfl (lv_at hl 2 rfl) ?_
  refine r_scr hx hb hX hbl hbA hw.2.2.2.1 hL (lv_at hl 0 rfl) (lv_at hl 4 rfl) 1 (by omega) (by decide) dL_law_558 dL_law_559 dL_law_561 dL_law_562 dL_law_563 ?_
  refine wc_i hw (va_runV (As := [.int (xs (i + 1))]) (rest := [.int r1]) ⟨hx, hb, hml, hown, hts⟩ (kX3_numbers l dC dI q ad en1 59 _ (by omega) th A pl cs hok hpok hM1 (xs (i + 1))) (cwV 1 hts gL_law_X3_numbers rfl rfl rfl (by decide +kernel) ⟨Nat.le_of_ble_eq_true rfl, Nat.le_of_ble_eq_true rfl⟩) (wk_preV hw (by omega) he42 rfl) rfl rfl hl.1 rfl (lv_room (Nat.le_of_ble_eq_true rfl)) dL_law_564 ⟨show _ + 0 ≤ 601024 by omega, show _ + 0 ≤ 7293034 by omega⟩) (fun r2 en2 H locs hp hw => ?_)
  obtain ⟨hr2, hM2, hfr2⟩ := hp
  have hD2 := DeskAt_mv hD1 (fun _ _ => rfl) (fun j h => hfr2 j (Or.inl h))
  refine lv_icmp_eq (tgt := 690) hx hb dL_law_567 (by decide) (fun _ => ?_) (fun h => absurd (hr1.trans hr2.symm) h)
  exact W.widen (k := cells + 1) (n := slots + 6) (by omega) (by omega) (kk en2 _ _ _ H locs ls ⟨hok, hpok, hD2, ⟨0, hM2⟩, f, (hfr2 58 (Or.inr (by omega))).trans ((hfr1 58 (by omega)).trans hf)⟩ hw hl)
set_option maxRecDepth 100000 in
theorem lc_here {p : Program} {e : Env} {s : State} {m : MethodId} {below : List Frame} {meth : Method} {c : Code} (l : Launch) {b L : Nat} {xs : Nat → Int32} (hL : L ≤ 2560) (C0 : lw_At p s m meth c b L xs) {dC : Nat → ClassId} {dI : Nat → Nat → Nat} {q : ClassId × ClassId × ClassId × ClassId} {ad : Nat → Nat} {en : Nat → va_E} {A : Ast} {pl : Nat → Pst} {cs : Nat → Int32} (hI : lInv q ad en A pl cs) {i : Nat} (hi : i + 5 ≤ L) {H : Heap} {locs : List Loc} {ls : Array Slot} {cells slots : Nat} (hw : wk (dC, dI) vwCl (wT q) ad en 59 (fun q : Nat => s.heap.size ≤ q) s H locs) (hl : lv_has ls 8 [(0, .ref b), (1, .ref (ad 0)), (2, .ref (ad 42)), (3, .ref (ad 58)), (4, .int (nI i))]) (hcl : cells + 1 ≤ 601024) (hsl : slots + 6 ≤ 7293034) (kk : lKK p l e s m below meth c b dC dI q ad i cells slots) :
    W p l e room_1 s m #[Value.ref b] below meth c H locs cells slots (lw_Z below #[Value.ref b] s) (F0 m 572 ls []) := by
  obtain ⟨hx, hb, hr, hml, hown, hts0, hX, hbl, hlocks, hgv⟩ := C0
  have hb : c.code = cL_law := hb
  have hown : s.vm.findClass RL = some m.cls := hown
  have hts : ∀ w ∈ wsL_law, w.before #[Value.ref b] s = true := fun w h => hts0 w (wsL_law_in w h)
  have hbA : ¬ (fun q : Nat => s.heap.size ≤ q) b := Nat.not_le.mpr hbl
  obtain ⟨hok, hpok, hD, ⟨th, hM⟩, f, hf⟩ := hI
  obtain ⟨nb, tb, Z, ta, tw, tp, hC⟩ := id hD
  have he0 := hC.2.1
  refine lv_aload_n hx hb dL_law_572 rfl (lv_at hl 1 rfl) ?_
  refine r_scr hx hb hX hbl hbA hw.2.2.2.1 hL (lv_at hl 0 rfl) (lv_at hl 4 rfl) 1 (by omega) (by decide) dL_law_573 dL_law_574 dL_law_576 dL_law_577 dL_law_578 ?_
  refine r_scr hx hb hX hbl hbA hw.2.2.2.1 hL (lv_at hl 0 rfl) (lv_at hl 4 rfl) 2 (by omega) (by decide) dL_law_579 dL_law_580 dL_law_582 dL_law_583 dL_law_584 ?_
  refine wc_i hw (va_runV (As := [.int (xs (i + 1)), .int (xs (i + 2))]) (rest := []) ⟨hx, hb, hml, hown, hts⟩ (kX2_here l dC dI q ad en 59 _ (by omega) A pl cs hok hpok hD (xs (i + 1)) (xs (i + 2))) (cwV 2 hts gL_law_X2_here rfl rfl rfl (by decide +kernel) ⟨Nat.le_of_ble_eq_true rfl, Nat.le_of_ble_eq_true rfl⟩) (wk_preV hw (by omega) he0 rfl) rfl rfl hl.1 rfl (lv_room (Nat.le_of_ble_eq_true rfl)) dL_law_585 ⟨show _ + 0 ≤ 601024 by omega, show _ + 0 ≤ 7293034 by omega⟩) (fun r1 en1 H locs hp hw => ?_)
  obtain ⟨hr1, hn1⟩ := hp
  have hD1 : DeskAt q ad en1 A pl cs := by rw [hn1]; exact hD
  have hfr1 : ∀ j, 42 ≤ j → en1 j = en j := fun j _ => by rw [hn1]
  have hM1 : ModAt q ad en1 th A pl cs := ModAt_mv hM (fun _ _ _ => rfl) (fun j h1 _ => hfr1 j h1)
  obtain ⟨O, an, wy, pla, hokO, hMC⟩ := id hM1
  have he42 := hMC.1
  refine lv_aload_n hx hb dL_law_588 rfl (lv_at hl 2 rfl) ?_
  refine r_scr hx hb hX hbl hbA hw.2.2.2.1 hL (lv_at hl 0 rfl) (lv_at hl 4 rfl) 1 (by omega) (by decide) dL_law_589 dL_law_590 dL_law_592 dL_law_593 dL_law_594 ?_
  refine r_scr hx hb hX hbl hbA hw.2.2.2.1 hL (lv_at hl 0 rfl) (lv_at hl 4 rfl) 2 (by omega) (by decide) dL_law_595 dL_law_596 dL_law_598 dL_law_599 dL_law_600 ?_
  refine wc_i hw (va_runV (As := [.int (xs (i + 1)), .int (xs (i + 2))]) (rest := [.int r1]) ⟨hx, hb, hml, hown, hts⟩ (kX3_here l dC dI q ad en1 59 _ (by omega) th A pl cs hok hpok hM1 (xs (i + 1)) (xs (i + 2))) (cwV 2 hts gL_law_X3_here rfl rfl rfl (by decide +kernel) ⟨Nat.le_of_ble_eq_true rfl, Nat.le_of_ble_eq_true rfl⟩) (wk_preV hw (by omega) he42 rfl) rfl rfl hl.1 rfl (lv_room (Nat.le_of_ble_eq_true rfl)) dL_law_601 ⟨show _ + 0 ≤ 601024 by omega, show _ + 0 ≤ 7293034 by omega⟩) (fun r2 en2 H locs hp hw => ?_)
  obtain ⟨hr2, hM2, hfr2⟩ := hp
  have hD2 := DeskAt_mv hD1 (fun _ _ => rfl) (fun j h => hfr2 j (Or.inl h))
  refine lv_icmp_eq (tgt := 690) hx hb dL_law_604 (by decide) (fun _ => ?_) (fun h => absurd (hr1.trans hr2.symm) h)
  exact W.widen (k := cells + 1) (n := slots + 6) (by omega) (by omega) (kk en2 _ _ _ H locs ls ⟨hok, hpok, hD2, ⟨0, hM2⟩, f, (hfr2 58 (Or.inr (by omega))).trans ((hfr1 58 (by omega)).trans hf)⟩ hw hl)
set_option maxRecDepth 100000 in
theorem lc_tally {p : Program} {e : Env} {s : State} {m : MethodId} {below : List Frame} {meth : Method} {c : Code} (l : Launch) {b L : Nat} {xs : Nat → Int32} (hL : L ≤ 2560) (C0 : lw_At p s m meth c b L xs) {dC : Nat → ClassId} {dI : Nat → Nat → Nat} {q : ClassId × ClassId × ClassId × ClassId} {ad : Nat → Nat} {en : Nat → va_E} {A : Ast} {pl : Nat → Pst} {cs : Nat → Int32} (hI : lInv q ad en A pl cs) {i : Nat} (hi : i + 5 ≤ L) {H : Heap} {locs : List Loc} {ls : Array Slot} {cells slots : Nat} (hw : wk (dC, dI) vwCl (wT q) ad en 59 (fun q : Nat => s.heap.size ≤ q) s H locs) (hl : lv_has ls 8 [(0, .ref b), (1, .ref (ad 0)), (2, .ref (ad 42)), (3, .ref (ad 58)), (4, .int (nI i))]) (hcl : cells + 1 ≤ 601024) (hsl : slots + 6 ≤ 7293034) (kk : lKK p l e s m below meth c b dC dI q ad i cells slots) :
    W p l e room_1 s m #[Value.ref b] below meth c H locs cells slots (lw_Z below #[Value.ref b] s) (F0 m 609 ls []) := by
  obtain ⟨hx, hb, hr, hml, hown, hts0, hX, hbl, hlocks, hgv⟩ := C0
  have hb : c.code = cL_law := hb
  have hown : s.vm.findClass RL = some m.cls := hown
  have hts : ∀ w ∈ wsL_law, w.before #[Value.ref b] s = true := fun w h => hts0 w (wsL_law_in w h)
  have hbA : ¬ (fun q : Nat => s.heap.size ≤ q) b := Nat.not_le.mpr hbl
  obtain ⟨hok, hpok, hD, ⟨th, hM⟩, f, hf⟩ := hI
  obtain ⟨nb, tb, Z, ta, tw, tp, hC⟩ := id hD
  have he0 := hC.2.1
  refine lv_aload_n hx hb dL_law_609 rfl (lv_at hl 1 rfl) ?_
  refine r_scr hx hb hX hbl hbA hw.2.2.2.1 hL (lv_at hl 0 rfl) (lv_at hl 4 rfl) 1 (by omega) (by decide) dL_law_610 dL_law_611 dL_law_613 dL_law_614 dL_law_615 ?_
  refine wc_l hw (va_runV (As := [.int (xs (i + 1))]) (rest := []) ⟨hx, hb, hml, hown, hts⟩ (kX2_tally l dC dI q ad en 59 _ (by omega) A pl cs hok hpok hD (xs (i + 1))) (cwV 1 hts gL_law_X2_tally rfl rfl rfl (by decide +kernel) ⟨Nat.le_of_ble_eq_true rfl, Nat.le_of_ble_eq_true rfl⟩) (wk_preV hw (by omega) he0 rfl) rfl rfl hl.1 rfl (lv_room (Nat.le_of_ble_eq_true rfl)) dL_law_616 ⟨show _ + 0 ≤ 601024 by omega, show _ + 0 ≤ 7293034 by omega⟩) (fun r1 en1 H locs hp hw => ?_)
  obtain ⟨hr1, hn1⟩ := hp
  have hD1 : DeskAt q ad en1 A pl cs := by rw [hn1]; exact hD
  have hfr1 : ∀ j, 42 ≤ j → en1 j = en j := fun j _ => by rw [hn1]
  have hM1 : ModAt q ad en1 th A pl cs := ModAt_mv hM (fun _ _ _ => rfl) (fun j h1 _ => hfr1 j h1)
  obtain ⟨O, an, wy, pla, hokO, hMC⟩ := id hM1
  have he42 := hMC.1
  refine lv_aload_n hx hb dL_law_619 rfl (lv_at hl 2 rfl) ?_
  refine r_scr hx hb hX hbl hbA hw.2.2.2.1 hL (lv_at hl 0 rfl) (lv_at hl 4 rfl) 1 (by omega) (by decide) dL_law_620 dL_law_621 dL_law_623 dL_law_624 dL_law_625 ?_
  refine wc_l hw (va_runV (As := [.int (xs (i + 1))]) (rest := [.long r1]) ⟨hx, hb, hml, hown, hts⟩ (kX3_tally l dC dI q ad en1 59 _ (by omega) th A pl cs hok hpok hM1 (xs (i + 1))) (cwV 1 hts gL_law_X3_tally rfl rfl rfl (by decide +kernel) ⟨Nat.le_of_ble_eq_true rfl, Nat.le_of_ble_eq_true rfl⟩) (wk_preV hw (by omega) he42 rfl) rfl rfl hl.1 rfl (lv_room (Nat.le_of_ble_eq_true rfl)) dL_law_626 ⟨show _ + 0 ≤ 601024 by omega, show _ + 0 ≤ 7293034 by omega⟩) (fun r2 en2 H locs hp hw => ?_)
  obtain ⟨hr2, hM2, hfr2⟩ := hp
  have hD2 := DeskAt_mv hD1 (fun _ _ => rfl) (fun j h => hfr2 j (Or.inl h))
  refine W.lcmp hx hb dL_law_629 ?_
  refine lv_if_eq (tgt := 690) hx hb dL_law_630 (by decide) (fun _ => ?_) (fun h => absurd ((lg_cmp_eq _ _).mpr (hr1.trans hr2.symm)) h)
  exact W.widen (k := cells + 1) (n := slots + 6) (by omega) (by omega) (kk en2 _ _ _ H locs ls ⟨hok, hpok, hD2, ⟨0, hM2⟩, f, (hfr2 58 (Or.inr (by omega))).trans ((hfr1 58 (by omega)).trans hf)⟩ hw hl)
set_option maxRecDepth 100000 in
theorem lc_row {p : Program} {e : Env} {s : State} {m : MethodId} {below : List Frame} {meth : Method} {c : Code} (l : Launch) {b L : Nat} {xs : Nat → Int32} (hL : L ≤ 2560) (C0 : lw_At p s m meth c b L xs) (hst : l.stackTraces = false) (hO : rOK s) {dC : Nat → ClassId} {dI : Nat → Nat → Nat} {q : ClassId × ClassId × ClassId × ClassId} {ad : Nat → Nat} {en : Nat → va_E} {A : Ast} {pl : Nat → Pst} {cs : Nat → Int32} (hI : lInv q ad en A pl cs) {i : Nat} (hi : i + 5 ≤ L) {H : Heap} {locs : List Loc} {ls : Array Slot} {cells slots : Nat} (hw : wk (dC, dI) vwCl (wT q) ad en 59 (fun q : Nat => s.heap.size ≤ q) s H locs) (hl : lv_has ls 8 [(0, .ref b), (1, .ref (ad 0)), (2, .ref (ad 42)), (3, .ref (ad 58)), (4, .int (nI i))]) (hcl : cells + 1 ≤ 601024) (hsl : slots + 6 ≤ 7293034) (kk : lKK p l e s m below meth c b dC dI q ad i cells slots) :
    W p l e room_1 s m #[Value.ref b] below meth c H locs cells slots (lw_Z below #[Value.ref b] s) (F0 m 635 ls []) := by
  obtain ⟨hx, hb, hr, hml, hown, hts0, hX, hbl, hlocks, hgv⟩ := C0
  have hb : c.code = cL_law := hb
  have hown : s.vm.findClass RL = some m.cls := hown
  have hts : ∀ w ∈ wsL_law, w.before #[Value.ref b] s = true := fun w h => hts0 w (wsL_law_in w h)
  have hbA : ¬ (fun q : Nat => s.heap.size ≤ q) b := Nat.not_le.mpr hbl
  obtain ⟨hok, hpok, hD, ⟨th, hM⟩, f, hf⟩ := hI
  obtain ⟨nb, tb, Z, ta, tw, tp, hC⟩ := id hD
  have he0 := hC.2.1
  refine lv_aload_n hx hb dL_law_635 rfl (lv_at hl 1 rfl) ?_
  refine r_scr hx hb hX hbl hbA hw.2.2.2.1 hL (lv_at hl 0 rfl) (lv_at hl 4 rfl) 1 (by omega) (by decide) dL_law_636 dL_law_637 dL_law_639 dL_law_640 dL_law_641 ?_
  refine lv_aload_n hx hb dL_law_642 rfl (lv_at hl 3 rfl) ?_
  refine wc_i hw (r_runW (n := 3) (As := [.ref (ad 0), .int (xs (i + 1)), .ref (ad 58)]) (rest := []) ⟨hx, hb, hml, hown, hts⟩ (kL_row l hst dC dI q ad en 59 _ (by omega) A pl cs hok hD f hf (xs (i + 1))) gL_law_L_row rfl rfl rfl (by decide +kernel) ⟨Nat.le_of_ble_eq_true rfl, Nat.le_of_ble_eq_true rfl⟩ ⟨rowPc_blind _ _ _ _ _ _ _ _, fun U hU hW => ⟨wk_pre hw U hU hW, rOK_move hW (fun j hj => by rw [hU]; exact hw.2.2.2.1.2.1 j hj (Nat.not_le.mpr hj)) hO⟩⟩ rfl rfl hl.1 rfl (lv_room (Nat.le_of_ble_eq_true rfl)) dL_law_643 ⟨show cells + 1 ≤ 601024 by omega, show slots + 6 ≤ 7293034 by omega⟩) (fun r1 en1 H locs hp hw => ?_)
  obtain ⟨hr1, ⟨f1, hf1, hz1⟩, hfr1⟩ := hp
  have hD1 := DeskAt_mv hD (fun _ _ => rfl) (fun j h => hfr1 j (by omega))
  have hM1 : ModAt q ad en1 th A pl cs := ModAt_mv hM (fun _ _ _ => rfl) (fun j h1 h2 => hfr1 j (by omega))
  obtain ⟨O, an, wy, pla, hokO, hMC⟩ := id hM1
  have he42 := hMC.1
  refine lv_istore (lv' := [(5, .int r1), (0, .ref b), (1, .ref (ad 0)), (2, .ref (ad 42)), (3, .ref (ad 58)), (4, .int (nI i))]) hx hb dL_law_646 hl (by decide) rfl (fun ls hl => ?_)
  refine lv_aload_n hx hb dL_law_648 rfl (lv_at hl 3 rfl) ?_
  refine r_scr hx hb hX hbl hbA hw.2.2.2.1 hL (lv_at hl 1 rfl) (lv_at hl 5 rfl) 1 (by omega) (by decide) dL_law_649 dL_law_650 dL_law_652 dL_law_653 dL_law_654 ?_
  refine wc_l hw (va_runV (As := [.int (xs (i + 1))]) (rest := []) ⟨hx, hb, hml, hown, hts⟩ (kX3_row l dC dI q ad en1 59 _ (by omega) th A pl cs hok hpok hM1 (xs (i + 1))) (cwV 1 hts gL_law_X3_row rfl rfl rfl (by decide +kernel) ⟨Nat.le_of_ble_eq_true rfl, Nat.le_of_ble_eq_true rfl⟩) (wk_preV hw (by omega) he42 rfl) rfl rfl hl.1 rfl (lv_room (Nat.le_of_ble_eq_true rfl)) dL_law_655 ⟨show cells + 1 + 0 ≤ 601024 by omega, show slots + 6 + 0 ≤ 7293034 by omega⟩) (fun r2 en2 H locs hp hw => ?_)
  obtain ⟨hr2, hM2, hfr2⟩ := hp
  have hD2 := DeskAt_mv hD1 (fun _ _ => rfl) (fun j h => hfr2 j (Or.inl h))
  have hf2 := (hfr2 58 (Or.inr (by omega))).trans hf1
  obtain ⟨O2, an2, wy2, pla2, hokO2, hMC2⟩ := id hM2
  have he42 := hMC2.1
  refine lv_lstore (lv' := [(6, .long r2), (5, .int r1), (0, .ref b), (1, .ref (ad 0)), (2, .ref (ad 42)), (3, .ref (ad 58)), (4, .int (nI i))]) hx hb dL_law_658 hl (by decide) rfl (fun ls hl => ?_)
  refine lv_aload_n hx hb dL_law_660 rfl (lv_at hl 4 rfl) ?_
  refine wc_i hw (va_runV (As := []) (rest := []) ⟨hx, hb, hml, hown, hts⟩ (kX3_thrown l dC dI q ad en2 59 _ (by omega) (sRowT (xs (i + 1)) A) A pl cs hok hpok hM2) (cwV 0 hts gL_law_X3_thrown rfl rfl rfl (by decide +kernel) ⟨Nat.le_of_ble_eq_true rfl, Nat.le_of_ble_eq_true rfl⟩) (wk_preV hw (by omega) he42 rfl) rfl rfl hl.1 rfl (lv_room (Nat.le_of_ble_eq_true rfl)) dL_law_661 ⟨show cells + 1 + 0 + 0 ≤ 601024 by omega, show slots + 6 + 0 + 0 ≤ 7293034 by omega⟩) (fun r3 en3 H locs hp hw => ?_)
  obtain ⟨hr3, hn3⟩ := hp
  rw [hn3] at hw
  clear hn3
  have h687 : ∀ ls : Array Slot, lv_has ls 8 [(6, .long r2), (5, .int r1), (0, .ref b), (1, .ref (ad 0)), (2, .ref (ad 42)), (3, .ref (ad 58)), (4, .int (nI i))] → W p l e room_1 s m #[Value.ref b] below meth c H locs (cells + 1 + 0 + 0) (slots + 6 + 0 + 0) (lw_Z below #[Value.ref b] s) (F0 m 687 ls []) := fun ls hl => by
    refine lv_goto (tgt := 690) hx hb dL_law_687 (by decide) ?_
    exact W.widen (k := cells + 1) (n := slots + 6) (by omega) (by omega) (kk en2 _ _ _ H locs ls ⟨hok, hpok, hD2, ⟨_, hM2⟩, f1, hf2⟩ hw (lv_sub hl [2, 3, 4, 5, 6] rfl))
  refine lv_iload hx hb dL_law_664 (lv_at hl 1 rfl) ?_
  refine lv_icmp_eq (tgt := 671) hx hb dL_law_666 (by decide) (fun _ => ?_) (fun h => absurd (hr3.trans hr1.symm) h)
  refine lv_iload hx hb dL_law_671 (lv_at hl 1 rfl) ?_
  refine lv_if_ne (tgt := 687) hx hb dL_law_673 (by decide) (fun _ => h687 ls hl) (fun h0 => ?_)
  refine lv_aload_n hx hb dL_law_676 rfl (lv_at hl 5 rfl) ?_
  refine lv_iconst (v := 0) hx hb dL_law_677 (by decide) ?_
  refine wr_lald (v := f1 0) hx hb hw 58 (by omega) 1 hf2 rfl (vp_in_nI (n := 0) (by decide) (by decide)) (by rfl) dL_law_678 ?_
  refine lv_lload hx hb dL_law_679 (lv_at hl 0 rfl) ?_
  refine W.lcmp hx hb dL_law_681 ?_
  exact lv_if_eq (tgt := 687) hx hb dL_law_682 (by decide) (fun _ => h687 ls hl) (fun h => absurd ((lg_cmp_eq _ _).mpr ((hz1 (hr1.symm.trans h0)).trans hr2.symm)) h)
