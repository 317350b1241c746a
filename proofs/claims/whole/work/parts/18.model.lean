/-! The reference: its object at place 42, its rows at 43 .. 57. -/
def RM (hF mF : Nat → Int32) (tF rF : Nat → Int64) (A : Ast) : Prop :=
  (∀ i, i < 328 → hF i = if aHr A (i / 41) (i % 41) = true then 1 else 0) ∧ (∀ k, k < 8 → mF k = nI (aMd A k) ∧ tF k = aTl A k) ∧ ∀ i, i < aCn A → rF i = aRw A i
def MHold (q : ClassId × ClassId × ClassId × ClassId) (en : Nat → va_E) (b : Nat) (A : Ast) : Prop :=
  ∃ (hF mF : Nat → Int32) (tF rF : Nat → Int64), en b = .inl (q.2.2.1, 328, .inl hF) ∧ en (b + 1) = .inl (q.1, 8, .inl mF) ∧ en (b + 2) = .inl (q.2.1, 8, .inr (.inl tF)) ∧ en (b + 3) = .inl (q.2.1, 20, .inr (.inl rF)) ∧ RM hF mF tF rF A
def MPl (wF sF kF aF fF xF : Nat → Int32) (pl : Nat → Pst) : Prop :=
  ∀ c, c < 10 → wF c = (pl c).1 ∧ aF c = nI (pl c).2.1 ∧ fF c = (pl c).2.2.2.2.1 ∧ xF c = (pl c).2.2.2.2.2 ∧ ∀ i, i < (pl c).2.1 → sF (6 * c + i) = (pl c).2.2.1 i ∧ kF (6 * c + i) = (pl c).2.2.2.1 i
def MPlan (q : ClassId × ClassId × ClassId × ClassId) (en : Nat → va_E) (pl : Nat → Pst) : Prop :=
  ∃ (wF sF kF aF fF xF : Nat → Int32), en 51 = .inl (q.1, 10, .inl wF) ∧ en 52 = .inl (q.1, 60, .inl sF) ∧ en 53 = .inl (q.1, 60, .inl kF) ∧ en 54 = .inl (q.1, 10, .inl aF) ∧ en 55 = .inl (q.1, 10, .inl fF) ∧ en 56 = .inl (q.1, 10, .inl xF) ∧ MPl wF sF kF aF fF xF pl
def MTold (q : ClassId × ClassId × ClassId × ClassId) (en : Nat → va_E) (cs : Nat → Int32) : Prop :=
  ∃ gF : Nat → Int32, en 57 = .inl (q.1, 7, .inl gF) ∧ ∀ i, i < 7 → gF i = cs i
def ModC (q : ClassId × ClassId × ClassId × ClassId) (ad : Nat → Nat) (en : Nat → va_E) (th : Int32) (A O : Ast) (pl : Nat → Pst) (cs : Nat → Int32) (an : Int64) (wy pla : Int32) : Prop :=
  en 42 = .inr (4, [.int th, .ref (ad 43), .ref (ad 44), .ref (ad 45), .ref (ad 46), .int (nI (aCn A)), .ref (ad 47), .ref (ad 48), .ref (ad 49), .ref (ad 50), .int (nI (aCn O)), .ref (ad 51), .ref (ad 52), .ref (ad 53), .ref (ad 54), .ref (ad 55), .ref (ad 56), .ref (ad 57), .long an, .int wy, .int pla]) ∧ MHold q en 43 A ∧ MHold q en 47 O ∧ MPlan q en pl ∧ MTold q en cs
def ModAt (q : ClassId × ClassId × ClassId × ClassId) (ad : Nat → Nat) (en : Nat → va_E) (th : Int32) (A : Ast) (pl : Nat → Pst) (cs : Nat → Int32) : Prop :=
  ∃ (O : Ast) (an : Int64) (wy pla : Int32), Aok O ∧ ModC q ad en th A O pl cs an wy pla
theorem RM_at {hF mF : Nat → Int32} {tF rF : Nat → Int64} {A : Ast} (h : RM hF mF tF rF A) {k y : Nat} (hk : k < 8) (hy : y < 41) : hF (41 * k + y) = if aHr A k y = true then 1 else 0 := by
  have e := h.1 (41 * k + y) (by omega)
  have e1 : (41 * k + y) / 41 = k := by omega
  have e2 : (41 * k + y) % 41 = y := by omega
  rw [e1, e2] at e
  exact e
theorem nar_b {x : Int32} {p : Prop} [Decidable p] (h : x = if p then 1 else 0) : vp_nar .boolean x = x := by
  rcases z01_r h with e | e <;> rw [e] <;> rfl
theorem RM_congr {hF mF hG mG : Nat → Int32} {tF rF tG rG : Nat → Int64} {A : Ast} (h : RM hF mF tF rF A) (hc : aCn A ≤ 20) (h1 : ∀ i, i < 328 → hG i = hF i) (h2 : ∀ i, i < 8 → mG i = mF i) (h3 : ∀ i, i < 8 → tG i = tF i) (h4 : ∀ i, i < 20 → rG i = rF i) : RM hG mG tG rG A :=
  ⟨fun i hi => (h1 i hi).trans (h.1 i hi), fun k hk => ⟨(h2 k hk).trans (h.2.1 k hk).1, (h3 k hk).trans (h.2.1 k hk).2⟩, fun i hi => (h4 i (by omega)).trans (h.2.2 i hi)⟩
theorem RM_add {hF mF : Nat → Int32} {tF rF : Nat → Int64} {A : Ast} (h : RM hF mF tF rF A) (hc : aCn A < 20) (v : Int64) : RM hF mF tF (vp_updL rF (aCn A) v) (aAdd v A) := by
  unfold aAdd
  rw [if_pos hc]
  refine ⟨h.1, h.2.1, fun i hi => ?_⟩
  show vp_updL rF (aCn A) v i = vp_updL (aRw A) (aCn A) v i
  have hi : i < aCn A + 1 := hi
  by_cases e : i = aCn A
  · rw [e, pk_uLs, pk_uLs]
  · rw [pk_uLn e, pk_uLn e]
    exact h.2.2 i (by omega)
theorem RM_make {hF mF : Nat → Int32} {tF rF : Nat → Int64} {A : Ast} (h : RM hF mF tF rF A) {k : Nat} (hk : k < 8) (hc : aMd A k < 40) : RM (upd hF (41 * k + (aMd A k + 1)) 1) (upd mF k (nI (aMd A k + 1))) tF rF (aMake k A) := by
  unfold aMake
  rw [if_pos hc]
  refine ⟨fun i hi => ?_, fun j hj => ?_, h.2.2⟩
  · show upd hF (41 * k + (aMd A k + 1)) 1 i = if (if i / 41 = k ∧ i % 41 = aMd A k + 1 then true else aHr A (i / 41) (i % 41)) = true then 1 else 0
    by_cases e : i = 41 * k + (aMd A k + 1)
    · have e1 : i / 41 = k ∧ i % 41 = aMd A k + 1 := by omega
      rw [if_pos e1, e, pk_us]
      rfl
    · have e1 : ¬ (i / 41 = k ∧ i % 41 = aMd A k + 1) := by omega
      rw [if_neg e1, pk_un e]
      exact h.1 i hi
  · show upd mF k (nI (aMd A k + 1)) j = nI (if j = k then aMd A k + 1 else aMd A j) ∧ tF j = aTl A j
    by_cases e : j = k
    · rw [if_pos e, e, pk_us]
      exact ⟨rfl, (h.2.1 k hk).2⟩
    · rw [if_neg e, pk_un e]
      exact h.2.1 j hj
theorem RM_drop {hF mF : Nat → Int32} {tF rF : Nat → Int64} {A : Ast} (h : RM hF mF tF rF A) {k y : Nat} (hk : k < 8) (hy : y < 41) : RM (upd hF (41 * k + y) 0) mF tF rF (aDrop k y A) := by
  refine ⟨fun i hi => ?_, h.2.1, h.2.2⟩
  show upd hF (41 * k + y) 0 i = if (if i / 41 = k ∧ i % 41 = y then false else aHr A (i / 41) (i % 41)) = true then 1 else 0
  by_cases e : i = 41 * k + y
  · have e1 : i / 41 = k ∧ i % 41 = y := by omega
    rw [if_pos e1, e, pk_us]
    rfl
  · have e1 : ¬ (i / 41 = k ∧ i % 41 = y) := by omega
    rw [if_neg e1, pk_un e]
    exact h.1 i hi
theorem RM_grow {hF mF : Nat → Int32} {tF rF : Nat → Int64} {A : Ast} (h : RM hF mF tF rF A) {k : Nat} (hk : k < 8) (x : Int64) : RM hF mF (vp_updL tF k (tF k + x)) rF (aGrow k x A) := by
  refine ⟨h.1, fun j hj => ⟨(h.2.1 j hj).1, ?_⟩, h.2.2⟩
  show vp_updL tF k (tF k + x) j = if j = k then aTl A k + x else aTl A j
  by_cases e : j = k
  · rw [if_pos e, e, pk_uLs, (h.2.1 k hk).2]
  · rw [if_neg e, pk_uLn e]
    exact (h.2.1 j hj).2
theorem RM_take {hF mF : Nat → Int32} {tF rF wF : Nat → Int64} {A : Ast} (h : RM hF mF tF rF A) (hc : 0 < aCn A) {k : Nat} (hk : k < 8) (hv : ∀ i, i < aCn A - 1 → wF i = rF (i + 1)) : RM hF mF (vp_updL tF k (tF k + rF 0)) wF (aTake k A) := by
  unfold aTake
  rw [if_pos hc]
  refine ⟨h.1, fun j hj => ⟨(h.2.1 j hj).1, ?_⟩, fun i hi => ?_⟩
  · show vp_updL tF k (tF k + rF 0) j = if j = k then aTl A k + aRw A 0 else aTl A j
    by_cases e : j = k
    · rw [if_pos e, e, pk_uLs, (h.2.1 k hk).2, h.2.2 0 hc]
    · rw [if_neg e, pk_uLn e]
      exact (h.2.1 j hj).2
  · show wF i = aRw A (i + 1)
    have hi : i < aCn A - 1 := hi
    rw [hv i hi, h.2.2 (i + 1) (by omega)]
theorem MPl_up {wF sF kF aF fF xF : Nat → Int32} {pl : Nat → Pst} (h : MPl wF sF kF aF fF xF pl) {c : Nat} (hc : c < 10) {wG aG fG xG : Nat → Int32} {P : Pst} (h1 : ∀ j, j ≠ c → wG j = wF j ∧ aG j = aF j ∧ fG j = fF j ∧ xG j = xF j) (h2 : wG c = P.1 ∧ aG c = nI P.2.1 ∧ fG c = P.2.2.2.2.1 ∧ xG c = P.2.2.2.2.2 ∧ ∀ i, i < P.2.1 → sF (6 * c + i) = P.2.2.1 i ∧ kF (6 * c + i) = P.2.2.2.1 i) : MPl wG sF kF aG fG xG (va_up pl c P) := by
  intro j hj
  by_cases e : j = c
  · rw [e, va_up_self]; exact h2
  · rw [va_up_ne _ _ e]
    obtain ⟨g1, g2, g3, g4⟩ := h1 j e
    obtain ⟨k1, k2, k3, k4, k5⟩ := h j hj
    exact ⟨g1.trans k1, g2.trans k2, g3.trans k3, g4.trans k4, k5⟩
theorem MPl_act {wF sF kF aF fF xF : Nat → Int32} {pl : Nat → Pst} (h : MPl wF sF kF aF fF xF pl) (hp : ∀ i, i < 10 → Pok (pl i)) {c : Nat} (hc : c < 10) (h6 : (pl c).2.1 < 6) (so kd : Int32) : MPl wF (upd sF (6 * c + (pl c).2.1) so) (upd kF (6 * c + (pl c).2.1) kd) (upd aF c (nI ((pl c).2.1 + 1))) fF xF (va_up pl c (pAdd so kd (pl c))) := by
  intro j hj
  by_cases e : j = c
  · subst e
    rw [va_up_self]
    obtain ⟨k1, k2, k3, k4, k5⟩ := h j hj
    unfold pAdd
    rw [if_pos h6]
    refine ⟨k1, by rw [pk_us], k3, k4, fun i hi => ?_⟩
    show upd sF (6 * j + (pl j).2.1) so (6 * j + i) = upd (pl j).2.2.1 (pl j).2.1 so i ∧ upd kF (6 * j + (pl j).2.1) kd (6 * j + i) = upd (pl j).2.2.2.1 (pl j).2.1 kd i
    have hi : i < (pl j).2.1 + 1 := hi
    by_cases ei : i = (pl j).2.1
    · rw [ei, pk_us, pk_us, pk_us, pk_us]
      exact ⟨rfl, rfl⟩
    · rw [pk_un (by omega), pk_un ei, pk_un (by omega), pk_un ei]
      exact k5 i (by omega)
  · rw [va_up_ne _ _ e]
    obtain ⟨k1, k2, k3, k4, k5⟩ := h j hj
    have hj6 := (hp j hj).1
    refine ⟨k1, by rw [pk_un e]; exact k2, k3, k4, fun i hi => ?_⟩
    rw [pk_un (by omega), pk_un (by omega)]
    exact k5 i hi
