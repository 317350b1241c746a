/-! The law's rows: the call of its own row, the script's numbers, what holds from call to call. -/
theorem Aok_sMake {A : Ast} (h : Aok A) (kd : Int32) : Aok (sMake kd A) := by
  unfold sMake
  split
  · exact Aok_make h _
  · exact h
theorem Aok_sCallA {A : Ast} (h : Aok A) (c z : Int32) (a : Int64) (pl : Nat → Pst) : Aok (sCallA c z a A pl) := by
  unfold sCallA
  split
  · exact h
  · split
    · exact Aok_run _ _ _ _ h
    · exact h
theorem Pok_up {pl : Nat → Pst} {c : Nat} {P : Pst} (h : ∀ i, i < 10 → Pok (pl i)) (hP : c < 10 → Pok P) : ∀ i, i < 10 → Pok (va_up pl c P i) := by
  intro i hi
  by_cases e : i = c
  · subst e; rw [va_up_self]; exact hP hi
  · rw [va_up_ne _ _ e]; exact h i hi
theorem Pok_sWants {pl : Nat → Pst} (h : ∀ i, i < 10 → Pok (pl i)) (c kd : Int32) : ∀ i, i < 10 → Pok (sWants c kd pl i) := by
  unfold sWants
  split
  · exact Pok_up h (fun hc => h _ hc)
  · exact h
theorem Pok_sAct {pl : Nat → Pst} (h : ∀ i, i < 10 → Pok (pl i)) (c so kd : Int32) : ∀ i, i < 10 → Pok (sAct c so kd pl i) := by
  unfold sAct
  split
  next hk =>
    refine Pok_up h (fun hc => ?_)
    obtain ⟨h1, h2, h3⟩ := h _ hc
    generalize pl c.toNatClampNeg = P at h1 h2 h3
    unfold pAdd
    split
    next h6 =>
      refine ⟨h6, fun i hi => ?_, h3⟩
      show okS (upd P.2.2.1 P.2.1 so i) ∧ okK (upd P.2.2.2.1 P.2.1 kd i)
      have hi : i < P.2.1 + 1 := hi
      by_cases e : i = P.2.1
      · rw [e, pk_us, pk_us]; exact hk.2
      · rw [pk_un e, pk_un e]; exact h2 i (by omega)
    next => exact ⟨h1, h2, h3⟩
  next => exact h
theorem Pok_sFails {pl : Nat → Pst} (h : ∀ i, i < 10 → Pok (pl i)) (c j x : Int32) : ∀ i, i < 10 → Pok (sFails c j x pl i) := by
  unfold sFails
  split
  next hk =>
    refine Pok_up h (fun hc => ?_)
    obtain ⟨h1, h2, h3⟩ := h _ hc
    exact ⟨h1, h2, Or.inr hk.2⟩
  next => exact h
theorem Pok_sCallP {pl : Nat → Pst} (h : ∀ i, i < 10 → Pok (pl i)) (c z : Int32) (a : Int64) (A : Ast) : ∀ i, i < 10 → Pok (sCallP c z a A pl i) := by
  unfold sCallP
  split
  · exact h
  · split
    · exact h
    · refine Pok_up h (fun hc => ?_)
      obtain ⟨h1, h2, h3⟩ := h _ hc
      unfold pForget
      split
      · exact ⟨h1, h2, Or.inl rfl⟩
      · exact ⟨h1, h2, h3⟩
theorem Aok_aAdd {A : Ast} (h : Aok A) (v : Int64) : Aok (aAdd v A) := Aok_add h v
theorem Aok_aDropI {A : Ast} (h : Aok A) (k z : Int32) : Aok (aDropI k z A) := Aok_dropI h k z
/-- the two numbers of a long -/
def lng (a b : Int32) : Int64 := (a.toInt64 <<< ((32 : Int32).toInt64 &&& 63)) ||| (b.toInt64 &&& 4294967295)
/-- what holds between the calls -/
def lInv (q : ClassId × ClassId × ClassId × ClassId) (ad : Nat → Nat) (en : Nat → va_E) (A : Ast) (pl : Nat → Pst) (cs : Nat → Int32) : Prop :=
  Aok A ∧ (∀ i, i < 10 → Pok (pl i)) ∧ DeskAt q ad en A pl cs ∧ (∃ th, ModAt q ad en th A pl cs) ∧ ∃ f : Nat → Int64, en 58 = .inl (q.2.1, 1, .inr (.inl f))
section LR
variable {p : Program} {l : Launch} {e : Env} {R : Room} {s : State} {m : MethodId} {args : Array Value} {below : List Frame} {meth : Method} {c : Code} {H : Heap} {locs : List Loc} {cells slots : Nat} {Q : State → Prop}
variable {cc : ByteArray} {pc : Nat} {ls : Array Slot} {rest : List Value}
theorem r_scr (hx : p.tables.exec = Jvm.exec) (hb : c.code = cc) {A : Nat → Prop} {H0 : Heap} {b L : Nat} {xs : Nat → Int32} (hX : va_X b L xs s H0) (hbl : b < H0.size) (hbA : ¬ A b) (hS : va_S A H0 H locs) (hL : L ≤ 2560) {i : Nat} (h0 : ls[0]? = some (.val (.ref b))) (h4 : ls[4]? = some (.val (.int (nI i)))) (k : Nat) (hk : i + k < L) {z : Int} (hz : Int32.ofInt z = nI k)
    (d0 : decode cc pc = .ok (.aload_n 0, 1)) (d1 : decode cc (pc + 1) = .ok (.iload 4, 2)) (d2 : decode cc (pc + 3) = .ok (.iconst z, 1)) (d3 : decode cc (pc + 4) = .ok (.iadd, 1)) (d4 : decode cc (pc + 5) = .ok (.iaload, 1))
    (kk : W p l e R s m args below meth c H locs cells slots Q (F0 m (pc + 6) ls (.int (xs (i + k)) :: rest))) : W p l e R s m args below meth c H locs cells slots Q (F0 m pc ls rest) := by
  refine lv_aload_n hx hb d0 rfl h0 ?_
  refine lv_iload hx hb d1 h4 ?_
  refine lv_iconst (v := nI k) hx hb d2 hz ?_
  refine lv_iadd hx hb d3 ?_
  refine lv_topi (fun x ex => ?_)
  have ex : x = nI (i + k) := ex.trans (nI_add _ _)
  subst ex
  refine va_sld hx hb hX hbl hbA hS (vp_in_nI hk (by omega)) d4 ?_
  rw [nI_clamp (by omega)]
  exact kk
theorem r_long (hx : p.tables.exec = Jvm.exec) (hb : c.code = cc) {own : String} (hown : s.vm.findClass own = some m.cls) (hlc : (Cond.constantLong own 19 4294967295).before args s = true) {A : Nat → Prop} {H0 : Heap} {b L : Nat} {xs : Nat → Int32} (hX : va_X b L xs s H0) (hbl : b < H0.size) (hbA : ¬ A b) (hS : va_S A H0 H locs) (hL : L ≤ 2560) {i : Nat} (h0 : ls[0]? = some (.val (.ref b))) (h4 : ls[4]? = some (.val (.int (nI i)))) (k k2 : Nat) (hk : i + k < L) (hk2 : i + k2 < L) {z z2 : Int} (hz : Int32.ofInt z = nI k) (hz2 : Int32.ofInt z2 = nI k2)
    (d0 : decode cc pc = .ok (.aload_n 0, 1)) (d1 : decode cc (pc + 1) = .ok (.iload 4, 2)) (d2 : decode cc (pc + 3) = .ok (.iconst z, 1)) (d3 : decode cc (pc + 4) = .ok (.iadd, 1)) (d4 : decode cc (pc + 5) = .ok (.iaload, 1)) (d5 : decode cc (pc + 6) = .ok (.i2l, 1)) (d6 : decode cc (pc + 7) = .ok (.bipush 32, 2)) (d7 : decode cc (pc + 9) = .ok (.lshl, 1))
    (e0 : decode cc (pc + 10) = .ok (.aload_n 0, 1)) (e1 : decode cc (pc + 11) = .ok (.iload 4, 2)) (e2 : decode cc (pc + 13) = .ok (.iconst z2, 1)) (e3 : decode cc (pc + 14) = .ok (.iadd, 1)) (e4 : decode cc (pc + 15) = .ok (.iaload, 1)) (e5 : decode cc (pc + 16) = .ok (.i2l, 1)) (e6 : decode cc (pc + 17) = .ok (.ldc2_w 19, 3)) (e7 : decode cc (pc + 20) = .ok (.land, 1)) (e8 : decode cc (pc + 21) = .ok (.lor, 1))
    (kk : W p l e R s m args below meth c H locs cells slots Q (F0 m (pc + 22) ls (.long (lng (xs (i + k)) (xs (i + k2))) :: rest))) : W p l e R s m args below meth c H locs cells slots Q (F0 m pc ls rest) := by
  refine r_scr hx hb hX hbl hbA hS hL h0 h4 k hk hz d0 d1 d2 d3 d4 ?_
  refine lv_i2l hx hb d5 rfl ?_
  refine lv_bipush (v := 32) hx hb d6 (by decide) ?_
  refine lv_lshl hx hb d7 rfl ?_
  refine r_scr hx hb hX hbl hbA hS hL h0 h4 k2 hk2 hz2 e0 e1 e2 e3 e4 ?_
  refine lv_i2l hx hb e5 rfl ?_
  refine lv_ldc2 hx hb hown hlc e6 ?_
  refine lv_land hx hb e7 ?_
  exact lv_lor hx hb e8 kk
/-- the call of a static method that catches -/
theorem r_runW {y : MethodName} {bytes : ByteArray} {maxL nL mc ms n index : Nat} {ret : Option FieldType} {hh : List (Nat × Nat × Nat × Nat)} {ws ws' : List Cond} {rm : Room} {Pc : Array Value → State → Prop} {Qc : Array Value → State → Outcome → State → Prop} {free : Addr → Prop} {Ts : List Cond} {own : String} {As : List Value} {g : JFrame}
    (S : CallFix p m c cc nL s args Ts own) (hM : Met l y ws rm Pc Qc mc ms free) (hT : GoodIn Ts (va_wsS own index y ws)) (hwd : ws = Cond.codeWith y bytes maxL ret hh :: ws') (hrc : rm.cells = mc) (hrs : rm.slots = ms) (hd : y.cls ≠ "java/lang/invoke/MethodHandle" ∧ y.cls ≠ "java/lang/invoke/VarHandle" ∧ (parseMethodDescriptor y.desc).map (fun d => d.parameters.length) = some n) (hR : rm.frames + 1 ≤ R.frames ∧ 8 + (maxL + 11) + rm.locals ≤ R.locals) (hp : PreS s H Pc As)
    (hg : g.method = m) (hn : As.length = n) (hsize : g.locals.size = nL) (hstack : g.stack = As.reverse ++ rest) (hW : 2 * g.monitorRoom + (rest.map fun v => v.category).sum ≤ 8) (hdg : decode cc g.pc = .ok (.invokestatic index, 3)) (hf : cells + mc ≤ R.cells ∧ slots + ms ≤ R.slots) :
    va_Run p l e R s m args below meth c H locs cells slots mc ms g rest (Qc As.toArray) (free) := by
  obtain ⟨hx, hb, hml, ho, hts⟩ := S
  have hws : ∀ w ∈ ws, ∀ (a' : Array Value) (U : State), s.WarmedH U.vm → w.before a' U = true := fun w hw a' U hWU =>
    word_at hWU (hT w (by unfold va_wsS; exact List.mem_append_right _ hw)).2 (hts w (hT w (by unfold va_wsS; exact List.mem_append_right _ hw)).1)
  have hi := hT (.initialized y.cls) (by simp [va_wsS])
  have hinit : ∀ (a' : Array Value) (U : State), s.WarmedH U.vm → (Cond.initialized y.cls).before a' U = true := fun a' U hWU => word_at hWU hi.2 (hts _ hi.1)
  have hcm : Cond.codeWith y bytes maxL ret hh ∈ ws := by rw [hwd]; exact List.mem_cons_self
  have hK : Back l R p e below s args y 3 8 (PreOf R mc ms Pc) (PostOf Qc mc ms free) := va_backW hM hp.1 hrc hrs hR.1 hR.2 hws hcm hinit
  have hcode := hts _ (hT _ (by unfold va_wsS; exact List.mem_append_right _ hcm)).1
  have hlink := hts _ (hT (.methodLink own index y) (by simp [va_wsS])).1
  have hstat := hts _ (hT (.static y) (by simp [va_wsS])).1
  obtain ⟨mk, methM, cM, hnamed, hmethM, -, -, -, -, -, -, hsigM⟩ := Cond.codeWith_spec hcode
  have hstatic : methM.isStatic = true := Cond.static_spec hnamed hmethM hstat
  obtain ⟨kP, hkP, -⟩ := className_of_methodNamed hnamed
  have hinitP : kP.init = .initialized := Cond.initialized_spec (findClass_of_methodNamed hnamed) hkP (hts _ hi.1)
  have hlen : As.length = methM.sig.parameters.length := by
    rw [hsigM] at hd
    rw [hn]
    exact (Option.some.inj hd.2.2).symm
  intro T hTH X
  obtain ⟨vm₁, X₁, hstep₁⟩ := X.invokestatic hx ho hlink hnamed hmethM hstatic hkP hinitP ⟨hd.1, hd.2.1⟩ (g := g) hg (argsL := As) (rest := rest) hlen hstack (by rw [hb]; exact hdg)
  obtain ⟨v, ⟨U', l2, c2, s2⟩, X', ⟨g', mk', t, L, e1, e2, hq, h1, hL, h2, h3⟩, st⟩ := hK m meth c ⟨T.setVm vm₁, locs, cells, slots⟩ { g with stack := rest } (.invokestatic index) mk As.toArray X₁ hg (hsize.trans hml.symm) (by rw [hb]; exact hdg) hW (X₁.named hnamed) ⟨hf.1, hf.2, hp.2 (T.setVm vm₁) hTH X₁.warmed⟩
  dsimp only [Pt.U, Pt.locs, Pt.cells, Pt.slots] at X' e1 e2 h1 h2 h3 st
  subst h1; subst h2; subst h3
  exact ⟨v, (T.setVm vm₁).calling g' mk' As.toArray, t, U', L, hTH, X', hL, e1, e2, hq, fun target h => hstep₁ _ fun acts => by rw [doInvoke_state]; exact st.trans h⟩
end LR
