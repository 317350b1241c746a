/-! What the tables say of the throw in row: kept from the law's start to the call. -/
def rA : List Cond := Jvm.Bundle.ownAtoms "LibraryDesk" 128 RJx00060 ["java/lang/IndexOutOfBoundsException", "java/lang/RuntimeException", "java/lang/Exception"]
abbrev rN : String := "java/lang/Throwable"
abbrev rS1 : String × String := ("UNASSIGNED_STACK", "[Ljava/lang/StackTraceElement;")
abbrev rS2 : String × String := ("SUPPRESSED_SENTINEL", "Ljava/util/List;")
theorem rA_kinds : ∀ w ∈ rA, (w.onTables && w.keepsFace) = true ∨ w = .laysStatic rN rS1.1 rS1.2 ∨ w = .isRef (.static rN rS1.1 rS1.2) ∨ w = .laysStatic rN rS2.1 rS2.2 ∨ w = .isRef (.static rN rS2.1 rS2.2) := by decide +kernel
theorem rA_1 : Cond.laysStatic rN rS1.1 rS1.2 ∈ rA := by decide +kernel
theorem rA_2 : Cond.isRef (.static rN rS1.1 rS1.2) ∈ rA := by decide +kernel
theorem rA_3 : Cond.laysStatic rN rS2.1 rS2.2 ∈ rA := by decide +kernel
theorem rA_4 : Cond.isRef (.static rN rS2.1 rS2.2) ∈ rA := by decide +kernel
theorem r_static {A A' : Array Value} {s U : State} {C n d : String} (hW : s.WarmedH U.vm) (hh : ∀ q : Nat, q < s.heap.size → U.heap[q]? = s.heap[q]?) (h1 : (Cond.laysStatic C n d).before A s = true) (h2 : (Cond.isRef (.static C n d)).before A s = true) :
    (Cond.laysStatic C n d).before A' U = true ∧ (Cond.isRef (.static C n d)).before A' U = true := by
  have g1 : (Cond.laysStatic C n d).before A (s.setVm U.vm) = true := Cond.before_shiftedFace (State.Shifted.of_warmed hW) _ rfl h1
  have g2 : (Cond.isRef (.static C n d)).before A (s.setVm U.vm) = true := Cond.before_shiftedFace (State.Shifted.of_warmed hW) _ rfl h2
  obtain ⟨c, k, i, f, a, cell, e1, e2, e3, e4, e5, e6, e7, e8, e9⟩ := Cond.laysStatic_spec g1
  obtain ⟨u, hu⟩ := Cond.staticRefV e2 e3 e4 e5 e6 g2
  have hc : U.heap[a]? = some cell := by
    have e5' : s.heap[a]? = some cell := e5
    rw [hh a (Array.getElem?_eq_some_iff.mp e5').1]
    exact e5'
  have e1' : U.vm.findClass C = some c := e1
  have e2' : U.fieldFound? C n d = some (c, k, i, f) := e2
  refine ⟨?_, ?_⟩
  · simp [Cond.before, Cond.holds, Cond.value, e1', e2', e3, e4, hc, e6, e7, e8, e9]
  · obtain ⟨v, hv⟩ := u
    have hu' : cell.slots[f.slot]? = some v := hu
    have hke : cell.vm ≠ .unknown := fun z => by rw [z] at e6; cases e6
    cases v <;> simp [Value.isRef] at hv <;> simp [Cond.before, Cond.holds, Cond.value, Term.eval, State.fieldNamed?, e2', e3, e4, hc, e6, hu', hke]
theorem r_move {A : Array Value} {s U : State} (hW : s.WarmedH U.vm) (hh : ∀ q : Nat, q < s.heap.size → U.heap[q]? = s.heap[q]?) (h : ∀ w ∈ rA, w.before A s = true) : ∀ (A' : Array Value) (w : Cond), w ∈ rA → w.before A' U = true := by
  intro A' w hw
  rcases rA_kinds w hw with h1 | rfl | rfl | rfl | rfl
  · simp only [Bool.and_eq_true] at h1
    exact va_tabs h1.1 (rfl : (s.setVm U.vm).vm = U.vm) (Cond.before_shiftedFace (State.Shifted.of_warmed hW) _ h1.2 (h w hw))
  · exact (r_static hW hh (h _ rA_1) (h _ rA_2)).1
  · exact (r_static hW hh (h _ rA_1) (h _ rA_2)).2
  · exact (r_static hW hh (h _ rA_3) (h _ rA_4)).1
  · exact (r_static hW hh (h _ rA_3) (h _ rA_4)).2
def rOK (U : State) : Prop := (∀ (A : Array Value) (w : Cond), w ∈ rA → w.before A U = true) ∧ (∃ a, vk_R RX2 126 "no such value in the row" a U) ∧ ∀ A : Array Value, (Cond.classLink RL 13 RJx00060).before A U = true
theorem rOK_move {s U : State} (hW : s.WarmedH U.vm) (hh : ∀ q : Nat, q < s.heap.size → U.heap[q]? = s.heap[q]?) (h : rOK s) : rOK U := by
  obtain ⟨h1, ⟨a, h2⟩, h3⟩ := h
  exact ⟨r_move hW hh (h1 #[]), ⟨a, vk_R.warm hW h2⟩, fun A => va_tabs rfl (rfl : (s.setVm U.vm).vm = U.vm) (Cond.before_shiftedFace (State.Shifted.of_warmed hW) _ rfl (h3 #[]))⟩
theorem rOK_calling {U : State} {g : JFrame} {mk : MethodId} {a : Array Value} (h : rOK U) : rOK (U.calling g mk a) := by
  obtain ⟨h1, ⟨a', h2⟩, h3⟩ := h
  refine ⟨fun A w hw => ?_, ⟨a', vk_R.same rfl h2⟩, fun A => va_tabs rfl (rfl : U.vm = (U.calling g mk a).vm) (h3 A)⟩
  have e := h1 A w hw
  rcases rA_kinds w hw with k | rfl | rfl | rfl | rfl
  · simp only [Bool.and_eq_true] at k
    exact va_tabs k.1 (rfl : U.vm = (U.calling g mk a).vm) e
  · exact e
  · exact e
  · exact e
  · exact e
