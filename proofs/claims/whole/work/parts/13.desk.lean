/-! The desk: its object at place 0, the row of plans at 1, plan i at 2 + 3 i .. 4 + 3 i, the two Holdings at 32 .. 36 and 37 .. 41. -/
abbrev okC (c : Int32) : Prop := 0 ≤ c ∧ c < 10
abbrev okK (c : Int32) : Prop := 0 ≤ c ∧ c < 8
abbrev okS (c : Int32) : Prop := 0 ≤ c ∧ c ≤ 6
theorem okC_nI {k : Nat} (h : k < 10) : okC (nI k) := ⟨nI_pos' (by omega), nI_lt (b := 10) h (by decide)⟩
theorem okK_nI {k : Nat} (h : k < 8) : okK (nI k) := ⟨nI_pos' (by omega), nI_lt (b := 8) h (by decide)⟩
theorem okC_of {c : Int32} (h : okC c) : ∃ k, k < 10 ∧ c = nI k := (kd_cases c (by decide)).resolve_right (fun z => z h)
theorem okK_of {c : Int32} (h : okK c) : ∃ k, k < 8 ∧ c = nI k := (kd_cases c (by decide)).resolve_right (fun z => z h)
theorem PlanAt_fr {q : ClassId × ClassId × ClassId × ClassId} {ad : Nat → Nat} {en en1 : Nat → va_E} {b : Nat} {P : Pst} (h : PlanAt q ad en b P) (hf : ∀ j, b ≤ j → j < b + 3 → en1 j = en j) : PlanAt q ad en1 b P := by
  obtain ⟨sf, kf, h0, h1, h2, h3⟩ := h
  exact ⟨sf, kf, (hf _ (by omega) (by omega)).trans h0, (hf _ (by omega) (by omega)).trans h1, (hf _ (by omega) (by omega)).trans h2, h3⟩
theorem HoldAt_fr {q : ClassId × ClassId × ClassId × ClassId} {ad : Nat → Nat} {en en1 : Nat → va_E} {b : Nat} {A : Ast} (h : HoldAt q ad en b A) (hf : ∀ j, b ≤ j → j < b + 5 → en1 j = en j) : HoldAt q ad en1 b A := by
  obtain ⟨mf, vhf, tf, vf, h0, h1, h2, h3, h4, hR⟩ := h
  exact ⟨mf, vhf, tf, vf, (hf _ (by omega) (by omega)).trans h0, (hf _ (by omega) (by omega)).trans h1, (hf _ (by omega) (by omega)).trans h2, (hf _ (by omega) (by omega)).trans h3, (hf _ (by omega) (by omega)).trans h4, hR⟩
def DeskC (q : ClassId × ClassId × ClassId × ClassId) (ad : Nat → Nat) (en : Nat → va_E) (nb tb : Nat) (A Z : Ast) (pl : Nat → Pst) (cs : Nat → Int32) (ta : Int64) (tw tp : Int32) : Prop :=
  ((nb = 32 ∧ tb = 37) ∨ (nb = 37 ∧ tb = 32)) ∧ en 0 = .inr (3, [.ref (ad 1), .ref (ad nb), .ref (ad tb), .long ta, .int tw, .int tp, .int (cs 0), .int (cs 1), .int (cs 2), .int (cs 3), .int (cs 4), .int (cs 5), .int (cs 6)]) ∧ (∃ g : Nat → Option Nat, en 1 = .inl (q.2.2.2, 10, .inr (.inr (.inr (.inr g)))) ∧ ∀ i, i < 10 → g i = some (ad (2 + 3 * i))) ∧ (∀ i, i < 10 → PlanAt q ad en (2 + 3 * i) (pl i)) ∧ HoldAt q ad en nb A ∧ HoldAt q ad en tb Z
def DeskAt (q : ClassId × ClassId × ClassId × ClassId) (ad : Nat → Nat) (en : Nat → va_E) (A : Ast) (pl : Nat → Pst) (cs : Nat → Int32) : Prop :=
  ∃ (nb tb : Nat) (Z : Ast) (ta : Int64) (tw tp : Int32), DeskC q ad en nb tb A Z pl cs ta tw tp
section DK
variable {q : ClassId × ClassId × ClassId × ClassId} {ad : Nat → Nat} {en en1 : Nat → va_E} {nb tb : Nat} {A Z : Ast} {pl : Nat → Pst} {cs : Nat → Int32} {ta : Int64} {tw tp : Int32}
theorem DeskC_now {A' : Ast} (h : DeskC q ad en nb tb A Z pl cs ta tw tp) (hH : HoldAt q ad en1 nb A') (hf : ∀ j, (j < nb ∨ nb + 5 ≤ j) → en1 j = en j) : DeskC q ad en1 nb tb A' Z pl cs ta tw tp := by
  obtain ⟨hnt, h0, ⟨g, h1, hg⟩, hp, hn, ht⟩ := h
  exact ⟨hnt, (hf _ (by omega)).trans h0, ⟨g, (hf _ (by omega)).trans h1, hg⟩, fun i hi => PlanAt_fr (hp i hi) (fun j a b => hf j (by omega)), hH, HoldAt_fr ht (fun j a b => hf j (by omega))⟩
theorem DeskC_trial {Z' : Ast} (h : DeskC q ad en nb tb A Z pl cs ta tw tp) (hH : HoldAt q ad en1 tb Z') (hf : ∀ j, (j < tb ∨ tb + 5 ≤ j) → en1 j = en j) : DeskC q ad en1 nb tb A Z' pl cs ta tw tp := by
  obtain ⟨hnt, h0, ⟨g, h1, hg⟩, hp, hn, ht⟩ := h
  exact ⟨hnt, (hf _ (by omega)).trans h0, ⟨g, (hf _ (by omega)).trans h1, hg⟩, fun i hi => PlanAt_fr (hp i hi) (fun j a b => hf j (by omega)), HoldAt_fr hn (fun j a b => hf j (by omega)), hH⟩
theorem DeskC_plan {c : Nat} {P : Pst} (h : DeskC q ad en nb tb A Z pl cs ta tw tp) (hc : c < 10) (hP : PlanAt q ad en1 (2 + 3 * c) P) (hf : ∀ j, (j < 2 + 3 * c ∨ 2 + 3 * c + 3 ≤ j) → en1 j = en j) : DeskC q ad en1 nb tb A Z (va_up pl c P) cs ta tw tp := by
  obtain ⟨hnt, h0, ⟨g, h1, hg⟩, hp, hn, ht⟩ := h
  refine ⟨hnt, (hf _ (by omega)).trans h0, ⟨g, (hf _ (by omega)).trans h1, hg⟩, fun i hi => ?_, HoldAt_fr hn (fun j a b => hf j (by omega)), HoldAt_fr ht (fun j a b => hf j (by omega))⟩
  by_cases e : i = c
  · subst e; rw [va_up_self]; exact hP
  · rw [va_up_ne _ _ e]; exact PlanAt_fr (hp i hi) (fun j a b => hf j (by omega))
theorem DeskC_obj {nb' tb' : Nat} {cs' : Nat → Int32} {ta' : Int64} {tw' tp' : Int32} (h : DeskC q ad en nb tb A Z pl cs ta tw tp) (hb : nb' = nb ∧ tb' = tb) (h0' : en1 0 = .inr (3, [.ref (ad 1), .ref (ad nb'), .ref (ad tb'), .long ta', .int tw', .int tp', .int (cs' 0), .int (cs' 1), .int (cs' 2), .int (cs' 3), .int (cs' 4), .int (cs' 5), .int (cs' 6)])) (hf : ∀ j, j ≠ 0 → en1 j = en j) : DeskC q ad en1 nb' tb' A Z pl cs' ta' tw' tp' := by
  obtain ⟨rfl, rfl⟩ := hb
  obtain ⟨hnt, h0, ⟨g, h1, hg⟩, hp, hn, ht⟩ := h
  exact ⟨hnt, h0', ⟨g, (hf _ (by omega)).trans h1, hg⟩, fun i hi => PlanAt_fr (hp i hi) (fun j a b => hf j (by omega)), HoldAt_fr hn (fun j a b => hf j (by omega)), HoldAt_fr ht (fun j a b => hf j (by omega))⟩
theorem DeskC_swap (h : DeskC q ad en nb tb A Z pl cs ta tw tp) (h0' : en1 0 = .inr (3, [.ref (ad 1), .ref (ad tb), .ref (ad nb), .long ta, .int tw, .int tp, .int (cs 0), .int (cs 1), .int (cs 2), .int (cs 3), .int (cs 4), .int (cs 5), .int (cs 6)])) (hf : ∀ j, j ≠ 0 → en1 j = en j) : DeskC q ad en1 tb nb Z A pl cs ta tw tp := by
  obtain ⟨hnt, h0, ⟨g, h1, hg⟩, hp, hn, ht⟩ := h
  exact ⟨hnt.symm.imp And.symm And.symm, h0', ⟨g, (hf _ (by omega)).trans h1, hg⟩, fun i hi => PlanAt_fr (hp i hi) (fun j a b => hf j (by omega)), HoldAt_fr ht (fun j a b => hf j (by omega)), HoldAt_fr hn (fun j a b => hf j (by omega))⟩
end DK
/-! what the calls answer, and what they leave -/
def sWantsR (c kd : Int32) (pl : Nat → Pst) : Int32 := if okC c ∧ (kd = -1 ∨ okK kd) then (pl c.toNatClampNeg).1 else -2
def sWants (c kd : Int32) (pl : Nat → Pst) : Nat → Pst := if okC c ∧ (kd = -1 ∨ okK kd) then va_up pl c.toNatClampNeg (kd, (pl c.toNatClampNeg).2) else pl
def sActR (c so kd : Int32) (pl : Nat → Pst) : Int32 := if okC c ∧ okS so ∧ okK kd then (if (pl c.toNatClampNeg).2.1 < 6 then nI ((pl c.toNatClampNeg).2.1 + 1) else -1) else -1
def sAct (c so kd : Int32) (pl : Nat → Pst) : Nat → Pst := if okC c ∧ okS so ∧ okK kd then va_up pl c.toNatClampNeg (pAdd so kd (pl c.toNatClampNeg)) else pl
def pTell (i x : Int32) (P : Pst) : Pst := (P.1, P.2.1, P.2.2.1, P.2.2.2.1, i, x)
def sFailsR (c i x : Int32) : Int32 := if okC c ∧ (0 ≤ i ∧ i < 6) ∧ (1 ≤ x ∧ x ≤ 5) then 1 else 0
def sFails (c i x : Int32) (pl : Nat → Pst) : Nat → Pst := if okC c ∧ (0 ≤ i ∧ i < 6) ∧ (1 ≤ x ∧ x ≤ 5) then va_up pl c.toNatClampNeg (pTell i x (pl c.toNatClampNeg)) else pl
def sMakeR (kd : Int32) (A : Ast) : Int32 := if okK kd then (if aMd A kd.toNatClampNeg < 40 then nI (aMd A kd.toNatClampNeg + 1) else -1) else -1
def sMake (kd : Int32) (A : Ast) : Ast := if okK kd then aMake kd.toNatClampNeg A else A
def sNumR (kd : Int32) (A : Ast) : Int32 := if okK kd then nI (cn (aHr A kd.toNatClampNeg) 40) else -1
def sTalR (kd : Int32) (A : Ast) : Int64 := if okK kd then aTl A kd.toNatClampNeg else 0
def sToldR (x : Int32) (cs : Nat → Int32) : Int32 := if 0 ≤ x ∧ x < 7 then cs x.toNatClampNeg else -1
abbrev sRef (c z : Int32) (A : Ast) (pl : Nat → Pst) : Prop := ¬ okC c ∨ (¬ (pl c.toNatClampNeg).1 = -1 ∧ ¬ aIs (pl c.toNatClampNeg).1 z A = true)
/-- what always holds of a plan -/
def Pok (P : Pst) : Prop := P.2.1 ≤ 6 ∧ (∀ i, i < P.2.1 → okS (P.2.2.1 i) ∧ okK (P.2.2.2.1 i)) ∧ (P.2.2.2.2.1 = -1 ∨ ((0 ≤ P.2.2.2.2.1 ∧ P.2.2.2.2.1 < 6) ∧ (1 ≤ P.2.2.2.2.2 ∧ P.2.2.2.2.2 ≤ 5)))
/-- one act: what it fails with (0: it does not), what is then, the answer then -/
def aDo (P : Pst) (i : Nat) (z : Int32) (a : Int64) (A : Ast) (x : Int64) : Int32 × Ast × Int64 :=
  if P.2.2.1 i = 0 then (if aMd A (P.2.2.2.1 i).toNatClampNeg < 40 then 0 else 6, aMake (P.2.2.2.1 i).toNatClampNeg A, x)
  else if P.2.2.1 i = 1 then (if gr (aHr A (P.2.2.2.1 i).toNatClampNeg) 40 = 0 then (7, A, x) else (0, aDrop (P.2.2.2.1 i).toNatClampNeg (gr (aHr A (P.2.2.2.1 i).toNatClampNeg) 40) A, x))
  else if P.2.2.1 i = 2 then (0, aGrow (P.2.2.2.1 i).toNatClampNeg a A, x)
  else if P.2.2.1 i = 3 then (if 0 < aCn A then 0 else 8, aTake (P.2.2.2.1 i).toNatClampNeg A, x)
  else if P.2.2.1 i = 4 then (0, A, 31 * x + aTl A (P.2.2.2.1 i).toNatClampNeg)
  else if P.2.2.1 i = 5 then (0, A, 31 * x + (nI (cn (aHr A (P.2.2.2.1 i).toNatClampNeg) 40)).toInt64)
  else (if aIs P.1 z A = true then 0 else 7, aDropI P.1 z A, x)
/-- the acts from the i-th on: what it fails with, at which act, what is then, the answer then -/
def aRun (P : Pst) (z : Int32) (a : Int64) : Nat → Nat → Ast → Int64 → Int32 × Nat × Ast × Int64
  | 0, i, A, x => (0, i, A, x)
  | f + 1, i, A, x => if P.2.2.2.2.1 = nI i then (P.2.2.2.2.2, i, A, x) else if (aDo P i z a A x).1 = 0 then aRun P z a f (i + 1) (aDo P i z a A x).2.1 (aDo P i z a A x).2.2 else ((aDo P i z a A x).1, i, (aDo P i z a A x).2.1, (aDo P i z a A x).2.2)
def sRun (c z : Int32) (a : Int64) (A : Ast) (pl : Nat → Pst) : Int32 × Nat × Ast × Int64 := aRun (pl c.toNatClampNeg) z a (pl c.toNatClampNeg).2.1 0 A a
def pForget (p : Nat) (P : Pst) : Pst := if P.2.2.2.2.1 = nI p then (P.1, P.2.1, P.2.2.1, P.2.2.2.1, -1, P.2.2.2.2.2) else P
def sCallR (c z : Int32) (a : Int64) (A : Ast) (pl : Nat → Pst) : Int64 := if sRef c z A pl then -9223372036854775807 else if (sRun c z a A pl).1 = 0 then (sRun c z a A pl).2.2.2 else -9223372036854775806
def sCallA (c z : Int32) (a : Int64) (A : Ast) (pl : Nat → Pst) : Ast := if sRef c z A pl then A else if (sRun c z a A pl).1 = 0 then (sRun c z a A pl).2.2.1 else A
def sCallP (c z : Int32) (a : Int64) (A : Ast) (pl : Nat → Pst) : Nat → Pst := if sRef c z A pl then pl else if (sRun c z a A pl).1 = 0 then pl else va_up pl c.toNatClampNeg (pForget (sRun c z a A pl).2.1 (pl c.toNatClampNeg))
def sCallC (c z : Int32) (a : Int64) (A : Ast) (pl : Nat → Pst) (cs : Nat → Int32) : Nat → Int32 := if sRef c z A pl then upd cs 1 (cs 1 + 1) else if (sRun c z a A pl).1 = 0 then upd cs 0 (cs 0 + 1) else fun i => if i = 2 then cs 2 + 1 else if i = 3 then (sRun c z a A pl).1 else if i = 4 then nI (sRun c z a A pl).2.1 else if i = 5 then c else if i = 6 then z else cs i
theorem Aok_do {P : Pst} {i : Nat} {z : Int32} {a x : Int64} {A : Ast} (h : Aok A) : Aok (aDo P i z a A x).2.1 := by
  unfold aDo
  split
  · exact Aok_make h _
  · split
    · split
      · exact h
      · exact Aok_drop h _ _
    · split
      · exact Aok_grow h _ _
      · split
        · exact Aok_take h _
        · split
          · exact h
          · split
            · exact h
            · exact Aok_dropI h _ _
theorem Aok_run {P : Pst} {z : Int32} {a : Int64} : ∀ (f i : Nat) (A : Ast) (x : Int64), Aok A → Aok (aRun P z a f i A x).2.2.1
  | 0, i, A, x, h => h
  | f + 1, i, A, x, h => by
    unfold aRun
    split
    · exact h
    · split
      · exact Aok_run f (i + 1) _ _ (Aok_do h)
      · exact Aok_do h
