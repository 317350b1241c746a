/-! A world by places: cell k of n lies at the address ad k and holds en k. -/
def wl (ad : Nat → Nat) (en : Nat → va_E) (n : Nat) : va_W := (List.range n).map (fun k => (ad k, en k))
theorem wl_len (ad : Nat → Nat) (en : Nat → va_E) (n : Nat) : (wl ad en n).length = n := by simp [wl]
theorem wl_get {ad : Nat → Nat} {en : Nat → va_E} {n k : Nat} (h : k < n) : (wl ad en n)[k]? = some (ad k, en k) := by
  simp [wl, h]
theorem wl_at {ad : Nat → Nat} {en : Nat → va_E} {n k : Nat} {e : va_E} (h : k < n) (he : en k = e) : (wl ad en n)[k]? = some (ad k, e) := by
  rw [wl_get h, he]
theorem wl_none {ad : Nat → Nat} {en : Nat → va_E} {n k : Nat} (h : n ≤ k) : (wl ad en n)[k]? = none :=
  List.getElem?_eq_none (by rw [wl_len]; exact h)
theorem wl_set {ad : Nat → Nat} {en : Nat → va_E} {n k : Nat} (h : k < n) (e : va_E) : (wl ad en n).set k (ad k, e) = wl ad (va_up en k e) n := by
  apply List.ext_getElem?
  intro j
  by_cases hj : j = k
  · subst hj
    rw [List.getElem?_set_self (by rw [wl_len]; exact h), wl_get h, va_up_self]
  · rw [List.getElem?_set_ne (Ne.symm hj)]
    by_cases hjn : j < n
    · rw [wl_get hjn, wl_get hjn, va_up_ne _ _ hj]
    · rw [wl_none (by omega), wl_none (by omega)]
theorem wl_push (ad : Nat → Nat) (en : Nat → va_E) (n q : Nat) (e : va_E) : wl ad en n ++ [(q, e)] = wl (va_up ad n q) (va_up en n e) (n + 1) := by
  apply List.ext_getElem?
  intro j
  by_cases hj : j < n
  · rw [List.getElem?_append_left (by rw [wl_len]; exact hj), wl_get hj, wl_get (by omega), va_up_ne _ _ (by omega), va_up_ne _ _ (by omega)]
  · rw [List.getElem?_append_right (by rw [wl_len]; omega), wl_len]
    by_cases hn : j = n
    · subst hn
      rw [Nat.sub_self, wl_get (by omega), va_up_self, va_up_self]
      rfl
    · rw [wl_none (by omega)]
      exact List.getElem?_eq_none (by simp; omega)
/-- which cells a method may change: its world's, and those that it makes -/
def wA (ad : Nat → Nat) (n sz : Nat) : Nat → Prop := fun q => (∃ k, k < n ∧ q = ad k) ∨ sz ≤ q
/-- what the tables say beside the words: the link to a nest mate's private method, the class of the plans' row -/
def wE (U : State) : Prop := va_Nw (.methodLinkNest RX0 35 yX2_isKind "LibraryDesk") U ∧ va_AO RX1 U
theorem wE_warm {s U : State} (hW : s.WarmedH U.vm) (h : wE s) : wE U := ⟨va_Nw.warmM hW h.1, va_AO.moved hW.alike h.2⟩
theorem wE_same {s U : State} (hvm : s.vm = U.vm) (h : wE s) : wE U := ⟨va_Nw.same rfl hvm h.1, va_AO.moved (by rw [hvm]; exact Vm.Alike.refl _) h.2⟩
/-- a method's world while it runs -/
def wk (D : va_G) (cl : List vw_C) (tys : List (ClassId × FieldType)) (ad : Nat → Nat) (en : Nat → va_E) (n : Nat) (A : Nat → Prop) (s : State) (H : Heap) (locs : List Loc) : Prop :=
  va_K D cl tys s ∧ va_P D cl (wl ad en n) H ∧ va_D A (wl ad en n) ∧ va_S A s.heap H locs ∧ (∀ q : Nat, s.heap.size ≤ q → A q) ∧ wE s
/-- at a method's start -/
def wPc (D : va_G) (cl : List vw_C) (tys : List (ClassId × FieldType)) (ad : Nat → Nat) (en : Nat → va_E) (n sz : Nat) (As : List Value) : Array Value → State → Prop :=
  va_Pc As (fun U => U.heap.size = sz ∧ va_P D cl (wl ad en n) U.heap ∧ va_K D cl tys U ∧ va_D (fun _ => True) (wl ad en n) ∧ wE U)
/-- at a method's end -/
def wB (D : va_G) (cl : List vw_C) (tys : List (ClassId × FieldType)) (ad : Nat → Nat) (n : Nat) (A : Nat → Prop) (en : Nat → va_E) (t : State) : Prop :=
  va_P D cl (wl ad en n) t.heap ∧ va_K D cl tys t ∧ va_D A (wl ad en n)
/-- at a constructor's end: the world has grown -/
def wG (D : va_G) (cl : List vw_C) (tys : List (ClassId × FieldType)) (n : Nat) (A : Nat → Prop) (u : (Nat → Nat) × (Nat → va_E)) (t : State) : Prop :=
  va_P D cl (wl u.1 u.2 n) t.heap ∧ va_K D cl tys t ∧ va_D A (wl u.1 u.2 n)
theorem wPc_blind (D : va_G) (cl : List vw_C) (tys : List (ClassId × FieldType)) (ad : Nat → Nat) (en : Nat → va_E) (n sz : Nat) (As : List Value) : FrameBlind (wPc D cl tys ad en n sz As) := fun a U g mk q => by
  obtain ⟨q0, q1, qP, qK, qD, qE⟩ := q
  exact ⟨q0, q1, qP, va_K.moved (u := U) (U := U.calling g mk a) (Vm.Alike.refl U.vm) qK, qD, wE_same (U := U.calling g mk a) rfl qE⟩
theorem wk_of {D : va_G} {cl : List vw_C} {tys : List (ClassId × FieldType)} {ad : Nat → Nat} {en : Nat → va_E} {n : Nat} {s : State} (hP : va_P D cl (wl ad en n) s.heap) (hK : va_K D cl tys s) (hD : va_D (fun _ => True) (wl ad en n)) (hE : wE s) :
    wk D cl tys ad en n (wA ad n s.heap.size) s s.heap [] := by
  refine ⟨hK, hP, ⟨hD.1, fun k q hk => ?_⟩, va_S.rf, fun q h => Or.inr h, hE⟩
  by_cases h : k < n
  · rw [wl_get h] at hk
    cases hk
    exact Or.inl ⟨k, h, rfl⟩
  · rw [wl_none (by omega)] at hk
    cases hk
theorem wk_pre {D : va_G} {cl : List vw_C} {tys : List (ClassId × FieldType)} {ad : Nat → Nat} {en : Nat → va_E} {n : Nat} {A : Nat → Prop} {s : State} {H : Heap} {locs : List Loc} {As : List Value} (h : wk D cl tys ad en n A s H locs) :
    ∀ U : State, U.heap = H → s.WarmedH U.vm → wPc D cl tys ad en n H.size As As.toArray U := fun U hU hW =>
  ⟨rfl, by rw [hU], by rw [hU]; exact h.2.1, va_K.moved hW.alike h.1, h.2.2.1.weaken (fun _ _ _ _ => trivial), wE_warm hW h.2.2.2.2.2⟩
theorem wk_preS {D : va_G} {cl : List vw_C} {tys : List (ClassId × FieldType)} {ad : Nat → Nat} {en : Nat → va_E} {n : Nat} {A : Nat → Prop} {s : State} {H : Heap} {locs : List Loc} {As : List Value} (h : wk D cl tys ad en n A s H locs) :
    PreS s H (wPc D cl tys ad en n H.size As) As := ⟨wPc_blind D cl tys ad en n H.size As, wk_pre h⟩
theorem wk_preV {D : va_G} {cl : List vw_C} {tys : List (ClassId × FieldType)} {ad : Nat → Nat} {en : Nat → va_E} {n : Nat} {A : Nat → Prop} {s : State} {H : Heap} {locs : List Loc} {As : List Value} {k ci : Nat} {fs : List Value} {C : vw_C} (h : wk D cl tys ad en n A s H locs) (hk : k < n) (he : en k = .inr (ci, fs)) (hc : cl[ci]? = some C) :
    PreV s H C.1 (ad k) (wPc D cl tys ad en n H.size (.ref (ad k) :: As)) As := ⟨wPc_blind D cl tys ad en n H.size _, va_recv h.1 h.2.1 hc (wl_at hk he), wk_pre h⟩
theorem wk_free {D : va_G} {cl : List vw_C} {tys : List (ClassId × FieldType)} {ad : Nat → Nat} {en : Nat → va_E} {n : Nat} {A : Nat → Prop} {s : State} {H : Heap} {locs : List Loc} (h : wk D cl tys ad en n A s H locs) : ∀ q, wA ad n H.size q → A q := fun q hq => by
  rcases hq with ⟨k, hk, rfl⟩ | hq
  · exact h.2.2.1.2 k _ (wl_get hk)
  · exact h.2.2.2.2.1 q (Nat.le_trans h.2.2.2.1.1 hq)
theorem wk_next {D : va_G} {cl : List vw_C} {tys : List (ClassId × FieldType)} {ad : Nat → Nat} {en en' : Nat → va_E} {n : Nat} {A A1 : Nat → Prop} {s t : State} {H H1 : Heap} {locs locs1 : List Loc} (h : wk D cl tys ad en n A s H locs) (ht : t.heap = H1) (hvm : s.vm.Alike t.vm) (hB : wB D cl tys ad n A1 en' t) (hS : va_S A s.heap H1 locs1) :
    wk D cl tys ad en' n A s H1 locs1 := by
  obtain ⟨hP, hK, hD⟩ := hB
  refine ⟨h.1, by rw [← ht]; exact hP, ⟨hD.1, fun k q hk => ?_⟩, hS, h.2.2.2.2⟩
  by_cases hkn : k < n
  · rw [wl_get hkn] at hk
    cases hk
    exact h.2.2.1.2 k (ad k, en k) (wl_get hkn)
  · rw [wl_none (by omega)] at hk
    cases hk
/-- two places of a world have two addresses -/
theorem wk_apart {D : va_G} {cl : List vw_C} {tys : List (ClassId × FieldType)} {ad : Nat → Nat} {en : Nat → va_E} {n : Nat} {A : Nat → Prop} {s : State} {H : Heap} {locs : List Loc} (h : wk D cl tys ad en n A s H locs) {i j : Nat} (hi : i < n) (hj : j < n) (e : ad i = ad j) : i = j :=
  h.2.2.1.1 i j _ _ (wl_get hi) (wl_get hj) e
section WLR
variable {p : Program} {l : Launch} {e : Env} {R : Room} {s : State} {m : MethodId} {args : Array Value} {below : List Frame} {meth : Method} {c : Code} {H : Heap} {locs : List Loc} {cells slots : Nat} {Q : State → Prop}
variable {cc : ByteArray} {pc : Nat} {ls : Array Slot} {rest st0 : List Value} {D : va_G} {cl : List vw_C} {A : Nat → Prop} {tys : List (ClassId × FieldType)} {ad : Nat → Nat} {en : Nat → va_E} {n : Nat} {mc ms : Nat} {a : Array Value}
/-- calls: behind one, the world that the callee leaves -/
theorem wc_i {post : Int32 → (Nat → va_E) → Prop} (hw : wk D cl tys ad en n A s H locs) (hr : va_Run p l e R s m args below meth c H locs cells slots mc ms (F0 m pc ls st0) rest (va_Qi post (wB D cl tys ad n (wA ad n H.size)) (wA ad n H.size) a) (wA ad n H.size))
    (kk : ∀ (r : Int32) (en' : Nat → va_E) (H1 : Heap) (locs1 : List Loc), post r en' → wk D cl tys ad en' n A s H1 locs1 → W p l e R s m args below meth c H1 locs1 (cells + mc) (slots + ms) Q (F0 m (pc + 3) ls (.int r :: rest))) : W p l e R s m args below meth c H locs cells slots Q (F0 m pc ls st0) :=
  va_calli hr hw.2.2.2.1 (fun q _ h => wk_free hw q h) (wk_free hw) (fun r u t H1 locs1 ht hvm hp hB _ _ hS => kk r u H1 locs1 hp (wk_next hw ht hvm hB hS))
theorem wc_l {post : Int64 → (Nat → va_E) → Prop} (hw : wk D cl tys ad en n A s H locs) (hr : va_Run p l e R s m args below meth c H locs cells slots mc ms (F0 m pc ls st0) rest (va_Ql post (wB D cl tys ad n (wA ad n H.size)) (wA ad n H.size) a) (wA ad n H.size))
    (kk : ∀ (r : Int64) (en' : Nat → va_E) (H1 : Heap) (locs1 : List Loc), post r en' → wk D cl tys ad en' n A s H1 locs1 → W p l e R s m args below meth c H1 locs1 (cells + mc) (slots + ms) Q (F0 m (pc + 3) ls (.long r :: rest))) : W p l e R s m args below meth c H locs cells slots Q (F0 m pc ls st0) :=
  va_calll hr hw.2.2.2.1 (fun q _ h => wk_free hw q h) (wk_free hw) (fun r u t H1 locs1 ht hvm hp hB _ _ hS => kk r u H1 locs1 hp (wk_next hw ht hvm hB hS))
theorem wc_v {post : (Nat → va_E) → Prop} (hw : wk D cl tys ad en n A s H locs) (hr : va_Run p l e R s m args below meth c H locs cells slots mc ms (F0 m pc ls st0) rest (va_Qv post (wB D cl tys ad n (wA ad n H.size)) (wA ad n H.size) a) (wA ad n H.size))
    (kk : ∀ (en' : Nat → va_E) (H1 : Heap) (locs1 : List Loc), post en' → wk D cl tys ad en' n A s H1 locs1 → W p l e R s m args below meth c H1 locs1 (cells + mc) (slots + ms) Q (F0 m (pc + 3) ls rest)) : W p l e R s m args below meth c H locs cells slots Q (F0 m pc ls st0) :=
  va_callv hr hw.2.2.2.1 (fun q _ h => wk_free hw q h) (wk_free hw) (fun u t H1 locs1 ht hvm hp hB _ _ hS => kk u H1 locs1 hp (wk_next hw ht hvm hB hS))
end WLR
