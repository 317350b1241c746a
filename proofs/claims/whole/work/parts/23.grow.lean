/-! Constructors: worlds that grow. The rows of 05 again, with the address under another name. -/
section WLG
variable {p : Program} {l : Launch} {e : Env} {R : Room} {s : State} {m : MethodId} {args : Array Value} {below : List Frame} {meth : Method} {c : Code} {H : Heap} {locs : List Loc} {cells slots : Nat} {Q : State → Prop}
variable {cc : ByteArray} {pc : Nat} {ls : Array Slot} {rest st0 : List Value} {D : va_G} {cl : List vw_C} {A : Nat → Prop} {tys : List (ClassId × FieldType)} {ad : Nat → Nat} {en : Nat → va_E} {n : Nat} {mc ms : Nat} {a : Array Value}
theorem wr_getA (hx : p.tables.exec = Jvm.exec) (hb : c.code = cc) {own ref C : String} {T : u_T} {N ci index : Nat} {Ts : List Cond} (hts : ∀ w ∈ Ts, w.before args s = true) (hin : ∀ w ∈ u_ws C T N, w ∈ Ts) (hown : s.vm.findClass own = some m.cls) (hw : wk D cl tys ad en n A s H locs) (k : Nat) (hk : k < n) {x : Nat} (hxa : x = ad k) {fs : List Value} (he : en k = .inr (ci, fs)) (hc : cl[ci]? = some (C, T, N)) (j : Nat) (hj : j < N) (hlink : (Cond.fieldLink own index ref (T j).2.1 (T j).2.2.1).before args s = true) (hsame : ∀ x, s.fieldFound? (T j).1 (T j).2.1 (T j).2.2.1 = some x → s.fieldFound? ref (T j).2.1 (T j).2.2.1 = some x) {v : Value} (hv : fs[j]? = some v) (hdg : decode cc pc = .ok (.getfield index, 3))
    (kk : W p l e R s m args below meth c H locs cells slots Q (F0 m (pc + 3) ls (v :: rest))) : W p l e R s m args below meth c H locs cells slots Q (F0 m pc ls (.ref x :: rest)) := by
  rw [hxa]
  exact wr_get hx hb hts hin hown hw k hk he hc j hj hlink hsame hv hdg kk
theorem wr_putA (hx : p.tables.exec = Jvm.exec) (hb : c.code = cc) {own ref C : String} {T : u_T} {N ci index : Nat} {Ts : List Cond} (hts : ∀ w ∈ Ts, w.before args s = true) (hin : ∀ w ∈ u_ws C T N, w ∈ Ts) (ty0 : Nat → FieldType) (hty : ∀ k, k < N → parseFieldDescriptor (T k).2.2.1 = some (ty0 k)) (hnm : ∀ a, a < N → ∀ b, b < N → a ≠ b → (T a).2.1 ≠ (T b).2.1) (hown : s.vm.findClass own = some m.cls) (hw : wk D cl tys ad en n A s H locs) (k : Nat) (hk : k < n) {x : Nat} (hxa : x = ad k) {fs : List Value} (he : en k = .inr (ci, fs)) (hc : cl[ci]? = some (C, T, N)) (j : Nat) (hj : j < N) (hlink : (Cond.fieldLink own index ref (T j).2.1 (T j).2.2.1).before args s = true) (hsame : ∀ x, s.fieldFound? (T j).1 (T j).2.1 (T j).2.2.1 = some x → s.fieldFound? ref (T j).2.1 (T j).2.2.1 = some x) (hfin : (T j).2.2.2 = false) {ty : FieldType} {v : Value} (hd : parseFieldDescriptor (T j).2.2.1 = some ty) (hn : narrow ty v = v) (hfit : fits ty v = true) (hl : j < fs.length)
    (hdg : decode cc pc = .ok (.putfield index, 3)) (kk : ∀ (en1 : Nat → va_E) (H1 : Heap) (locs1 : List Loc), en1 = va_up en k (.inr (ci, fs.set j v)) → wk D cl tys ad en1 n A s H1 locs1 → W p l e R s m args below meth c H1 locs1 cells slots Q (F0 m (pc + 3) ls rest)) : W p l e R s m args below meth c H locs cells slots Q (F0 m pc ls (v :: .ref x :: rest)) := by
  rw [hxa]
  exact wr_put hx hb hts hin ty0 hty hnm hown hw k hk he hc j hj hlink hsame hfin hd hn hfit hl hdg kk
theorem wr_putFA (hx : p.tables.exec = Jvm.exec) (hb : c.code = cc) {own ref C : String} {T : u_T} {N ci index : Nat} {Ts : List Cond} (hts : ∀ w ∈ Ts, w.before args s = true) (hin : ∀ w ∈ u_ws C T N, w ∈ Ts) (ty0 : Nat → FieldType) (hty : ∀ k, k < N → parseFieldDescriptor (T k).2.2.1 = some (ty0 k)) (hnm : ∀ a, a < N → ∀ b, b < N → a ≠ b → (T a).2.1 ≠ (T b).2.1) (hown : s.vm.findClass own = some m.cls) (hw : wk D cl tys ad en n A s H locs) (k : Nat) (hk : k < n) {x : Nat} (hxa : x = ad k) {fs : List Value} (he : en k = .inr (ci, fs)) (hc : cl[ci]? = some (C, T, N)) (j : Nat) (hj : j < N) (hlink : (Cond.fieldLink own index ref (T j).2.1 (T j).2.2.1).before args s = true) (hsame : ∀ x, s.fieldFound? (T j).1 (T j).2.1 (T j).2.2.1 = some x → s.fieldFound? ref (T j).2.1 (T j).2.2.1 = some x) (hfin : (T j).2.2.2 = true) (hin2 : meth.name = "<init>") (hdecl : (T j).1 = own) {ty : FieldType} {v : Value} (hd : parseFieldDescriptor (T j).2.2.1 = some ty) (hn : narrow ty v = v) (hfit : fits ty v = true) (hl : j < fs.length)
    (hdg : decode cc pc = .ok (.putfield index, 3)) (kk : ∀ (en1 : Nat → va_E) (H1 : Heap) (locs1 : List Loc), en1 = va_up en k (.inr (ci, fs.set j v)) → wk D cl tys ad en1 n A s H1 locs1 → W p l e R s m args below meth c H1 locs1 cells slots Q (F0 m (pc + 3) ls rest)) : W p l e R s m args below meth c H locs cells slots Q (F0 m pc ls (v :: .ref x :: rest)) := by
  rw [hxa]
  exact wr_putF hx hb hts hin ty0 hty hnm hown hw k hk he hc j hj hlink hsame hfin hin2 hdecl hd hn hfit hl hdg kk
theorem wr_iastA (hx : p.tables.exec = Jvm.exec) (hb : c.code = cc) (hw : wk D cl tys ad en n A s H locs) (k : Nat) (hk : k < n) {y : Nat} (hya : y = ad k) (t0 : Nat) {cA : ClassId} {N : Nat} {f : Nat → Int32} (he : en k = .inl (cA, N, .inl f)) (ht : tys[t0]? = some (cA, .int)) {i x : Int32} (hin : vp_in i N) {j : Nat} (hj : i.toNatClampNeg = j) (hdg : decode cc pc = .ok (.iastore, 1))
    (kk : ∀ (en1 : Nat → va_E) (H1 : Heap) (locs1 : List Loc), en1 = va_up en k (.inl (cA, N, .inl (upd f j x))) → wk D cl tys ad en1 n A s H1 locs1 → W p l e R s m args below meth c H1 locs1 cells slots Q (F0 m (pc + 1) ls rest)) : W p l e R s m args below meth c H locs cells slots Q (F0 m pc ls (.int x :: .int i :: .ref y :: rest)) := by
  rw [hya]
  exact wr_iast hx hb hw k hk t0 he ht hin hj hdg kk
theorem wr_astqA (hx : p.tables.exec = Jvm.exec) (hb : c.code = cc) (hw : wk D cl tys ad en n A s H locs) (k : Nat) (hk : k < n) {y : Nat} (hya : y = ad k) (t0 : Nat) (k2 : Nat) (hk2 : k2 < n) {z : Nat} (hza : z = ad k2) {ci : Nat} {cA : ClassId} {r : vw_C} {N : Nat} {vs : List Value} {f : Nat → Option Nat} (he : en k = .inl (cA, N, .inr (.inr (.inr (.inr f))))) (ht : tys[t0]? = some (cA, .object r.1)) (he2 : en k2 = .inr (ci, vs)) (hc : cl[ci]? = some r) {i : Int32} (hin : vp_in i N) {j : Nat} (hj : i.toNatClampNeg = j) (hdg : decode cc pc = .ok (.aastore, 1))
    (kk : ∀ (en1 : Nat → va_E) (H1 : Heap) (locs1 : List Loc), en1 = va_up en k (.inl (cA, N, .inr (.inr (.inr (.inr (va_up f j (some z))))))) → wk D cl tys ad en1 n A s H1 locs1 → W p l e R s m args below meth c H1 locs1 cells slots Q (F0 m (pc + 1) ls rest)) : W p l e R s m args below meth c H locs cells slots Q (F0 m pc ls (.ref z :: .int i :: .ref y :: rest)) := by
  subst hya
  subst hza
  exact wr_astq hx hb hw k hk t0 k2 hk2 he ht he2 hc hin hj hdg kk
theorem wk_grow {n2 : Nat} {ad1 : Nat → Nat} {en1 : Nat → va_E} {t : State} {H1 : Heap} {locs1 : List Loc} (h : wk D cl tys ad en n A s H locs) (ht : t.heap = H1) (hB : wG D cl tys n2 (wA ad n H.size) (ad1, en1) t) (hS : va_S A s.heap H1 locs1) : wk D cl tys ad1 en1 n2 A s H1 locs1 := by
  obtain ⟨hP, hK, hD⟩ := hB
  exact ⟨h.1, by rw [← ht]; exact hP, ⟨hD.1, fun k q hk => wk_free h _ (hD.2 k q hk)⟩, hS, h.2.2.2.2⟩
theorem wc_g {n2 : Nat} {post : ((Nat → Nat) × (Nat → va_E)) → Prop} (hw : wk D cl tys ad en n A s H locs) (hr : va_Run p l e R s m args below meth c H locs cells slots mc ms (F0 m pc ls st0) rest (va_Qv post (wG D cl tys n2 (wA ad n H.size)) (wA ad n H.size) a) (wA ad n H.size))
    (kk : ∀ (ad1 : Nat → Nat) (en1 : Nat → va_E) (H1 : Heap) (locs1 : List Loc), post (ad1, en1) → wk D cl tys ad1 en1 n2 A s H1 locs1 → W p l e R s m args below meth c H1 locs1 (cells + mc) (slots + ms) Q (F0 m (pc + 3) ls rest)) : W p l e R s m args below meth c H locs cells slots Q (F0 m pc ls st0) :=
  va_callv hr hw.2.2.2.1 (fun q _ h => wk_free hw q h) (wk_free hw) (fun u t H1 locs1 ht hvm hp hB _ _ hS => kk u.1 u.2 H1 locs1 hp (wk_grow hw ht hB hS))
theorem we_g {n2 : Nat} (hx : p.tables.exec = Jvm.exec) (hb : c.code = cc) (hr : meth.sig.returnType = none) (hlocks : meth.locks = false) {ad1 : Nat → Nat} {en1 : Nat → va_E} (hw : wk D cl tys ad1 en1 n2 A s H locs) {post : ((Nat → Nat) × (Nat → va_E)) → Prop} (hp : post (ad1, en1)) (hdg : decode cc pc = .ok (.return_, 1)) :
    W p l e R s m args below meth c H locs cells slots (MQ below (va_Qv post (wG D cl tys n2 A) A) args s cells slots A) (F0 m pc ls []) :=
  W.vret hx hb hr (fun t ht hW => ⟨⟨(ad1, en1), rfl, hp, by rw [ht]; exact hw.2.1, va_K.moved hW.alike hw.1, hw.2.2.1⟩, hw.2.2.2.1.F ht⟩) hw.2.2.2.1.2.2 hdg hlocks
end WLG
/-- nothing yet -/
def A0 : Ast := (fun _ => 0, fun _ _ => false, fun _ => 0, fun _ => 0, 0)
def P0 : Pst := (-1, 0, fun _ => 0, fun _ => 0, -1, 0)
theorem Aok_0 : Aok A0 := ⟨fun k _ => ⟨Nat.zero_le _, fun j h => by cases h⟩, Nat.zero_le _⟩
theorem Pok_0 : Pok P0 := ⟨Nat.zero_le _, fun i h => absurd h (Nat.not_lt_zero i), Or.inl rfl⟩
theorem RC_0 : RC (fun _ => 0) (fun _ => 0) (fun _ => 0) (fun _ => 0) A0 := ⟨fun k _ => ⟨rfl, rfl, fun j _ => by unfold bL; show (0#64).getLsbD j = false; simp⟩, fun i h => absurd h (Nat.not_lt_zero i)⟩
theorem RM_0 : RM (fun _ => 0) (fun _ => 0) (fun _ => 0) (fun _ => 0) A0 := ⟨fun i _ => rfl, fun k _ => ⟨rfl, rfl⟩, fun i h => absurd h (Nat.not_lt_zero i)⟩
section MV
variable {q : ClassId × ClassId × ClassId × ClassId} {ad ad1 : Nat → Nat} {en en1 : Nat → va_E}
theorem PlanAt_mv {b : Nat} {P : Pst} (h : PlanAt q ad en b P) (ha : ∀ j, b ≤ j → j < b + 3 → ad1 j = ad j) (hf : ∀ j, b ≤ j → j < b + 3 → en1 j = en j) : PlanAt q ad1 en1 b P := by
  obtain ⟨sf, kf, h0, h1, h2, h3⟩ := h
  refine ⟨sf, kf, ?_, (hf _ (by omega) (by omega)).trans h1, (hf _ (by omega) (by omega)).trans h2, h3⟩
  rw [ha (b + 1) (by omega) (by omega), ha (b + 2) (by omega) (by omega), hf b (by omega) (by omega)]
  exact h0
theorem HoldAt_mv {b : Nat} {A : Ast} (h : HoldAt q ad en b A) (ha : ∀ j, b ≤ j → j < b + 5 → ad1 j = ad j) (hf : ∀ j, b ≤ j → j < b + 5 → en1 j = en j) : HoldAt q ad1 en1 b A := by
  obtain ⟨mf, vh, tf, vf, h0, h1, h2, h3, h4, hR⟩ := h
  refine ⟨mf, vh, tf, vf, ?_, (hf _ (by omega) (by omega)).trans h1, (hf _ (by omega) (by omega)).trans h2, (hf _ (by omega) (by omega)).trans h3, (hf _ (by omega) (by omega)).trans h4, hR⟩
  rw [ha (b + 1) (by omega) (by omega), ha (b + 2) (by omega) (by omega), ha (b + 3) (by omega) (by omega), ha (b + 4) (by omega) (by omega), hf b (by omega) (by omega)]
  exact h0
theorem DeskAt_mv {A : Ast} {pl : Nat → Pst} {cs : Nat → Int32} (h : DeskAt q ad en A pl cs) (ha : ∀ j, j < 42 → ad1 j = ad j) (hf : ∀ j, j < 42 → en1 j = en j) : DeskAt q ad1 en1 A pl cs := by
  obtain ⟨nb, tb, Z, ta, tw, tp, hnt, h0, ⟨g, h1, hg⟩, hp, hn, ht⟩ := h
  refine ⟨nb, tb, Z, ta, tw, tp, hnt, ?_, ⟨g, (hf _ (by omega)).trans h1, fun i hi => ?_⟩, fun i hi => PlanAt_mv (hp i hi) (fun j a b => ha j (by omega)) (fun j a b => hf j (by omega)), HoldAt_mv hn (fun j a b => ha j (by omega)) (fun j a b => hf j (by omega)), HoldAt_mv ht (fun j a b => ha j (by omega)) (fun j a b => hf j (by omega))⟩
  · rw [ha 1 (by omega), ha nb (by omega), ha tb (by omega), hf 0 (by omega)]
    exact h0
  · rw [ha _ (by omega)]
    exact hg i hi
theorem ModAt_mv {A : Ast} {pl : Nat → Pst} {cs : Nat → Int32} {th : Int32} (h : ModAt q ad en th A pl cs) (ha : ∀ j, 42 ≤ j → j < 58 → ad1 j = ad j) (hf : ∀ j, 42 ≤ j → j < 58 → en1 j = en j) : ModAt q ad1 en1 th A pl cs := by
  obtain ⟨O, an, wy, pla, hO, o, ⟨hF, mF, tF, rF, a1, a2, a3, a4, hR⟩, ⟨oh, om, ot, orr, b1, b2, b3, b4, hOR⟩, ⟨wF, sF, kF, aF, fF, xF, c1, c2, c3, c4, c5, c6, hPl⟩, ⟨gF, e1, hT⟩⟩ := h
  refine ⟨O, an, wy, pla, hO, ?_, ⟨hF, mF, tF, rF, (hf _ (by omega) (by omega)).trans a1, (hf _ (by omega) (by omega)).trans a2, (hf _ (by omega) (by omega)).trans a3, (hf _ (by omega) (by omega)).trans a4, hR⟩, ⟨oh, om, ot, orr, (hf _ (by omega) (by omega)).trans b1, (hf _ (by omega) (by omega)).trans b2, (hf _ (by omega) (by omega)).trans b3, (hf _ (by omega) (by omega)).trans b4, hOR⟩, ⟨wF, sF, kF, aF, fF, xF, (hf _ (by omega) (by omega)).trans c1, (hf _ (by omega) (by omega)).trans c2, (hf _ (by omega) (by omega)).trans c3, (hf _ (by omega) (by omega)).trans c4, (hf _ (by omega) (by omega)).trans c5, (hf _ (by omega) (by omega)).trans c6, hPl⟩, ⟨gF, (hf _ (by omega) (by omega)).trans e1, hT⟩⟩
  rw [ha 43 (by omega) (by omega), ha 44 (by omega) (by omega), ha 45 (by omega) (by omega), ha 46 (by omega) (by omega), ha 47 (by omega) (by omega), ha 48 (by omega) (by omega), ha 49 (by omega) (by omega), ha 50 (by omega) (by omega), ha 51 (by omega) (by omega), ha 52 (by omega) (by omega), ha 53 (by omega) (by omega), ha 54 (by omega) (by omega), ha 55 (by omega) (by omega), ha 56 (by omega) (by omega), ha 57 (by omega) (by omega), hf 42 (by omega) (by omega)]
  exact o
end MV
