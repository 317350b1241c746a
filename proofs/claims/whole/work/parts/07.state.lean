/-! What the two sides hold, as one mathematical value. Ast: numbers made of a kind, which are here, tallies, the row's values, how many they are. -/
abbrev wT (q : ClassId × ClassId × ClassId × ClassId) : List (ClassId × FieldType) := [(q.1, .int), (q.2.1, .long), (q.2.2.1, .boolean), (q.2.2.2, .object RX1)]
abbrev Ast : Type := (Nat → Nat) × (Nat → Nat → Bool) × (Nat → Int64) × (Nat → Int64) × Nat
abbrev aMd (A : Ast) : Nat → Nat := A.1
abbrev aHr (A : Ast) : Nat → Nat → Bool := A.2.1
abbrev aTl (A : Ast) : Nat → Int64 := A.2.2.1
abbrev aRw (A : Ast) : Nat → Int64 := A.2.2.2.1
abbrev aCn (A : Ast) : Nat := A.2.2.2.2
def bL (x : Int64) (j : Nat) : Bool := x.toBitVec.getLsbD j
/-- a value more in the row -/
def aAdd (v : Int64) (A : Ast) : Ast := if aCn A < 20 then (A.1, A.2.1, A.2.2.1, vp_updL (aRw A) (aCn A) v, aCn A + 1) else A
def aMake (k : Nat) (A : Ast) : Ast := if aMd A k < 40 then (fun i => if i = k then aMd A k + 1 else aMd A i, fun i j => if i = k ∧ j = aMd A k + 1 then true else aHr A i j, A.2.2) else A
def aDrop (k z : Nat) (A : Ast) : Ast := (A.1, fun i j => if i = k ∧ j = z then false else aHr A i j, A.2.2)
def aGrow (k : Nat) (x : Int64) (A : Ast) : Ast := (A.1, A.2.1, fun i => if i = k then aTl A k + x else aTl A i, A.2.2.2)
def aTake (k : Nat) (A : Ast) : Ast := if 0 < aCn A then (A.1, A.2.1, fun i => if i = k then aTl A k + aRw A 0 else aTl A i, fun i => aRw A (i + 1), aCn A - 1) else A
/-- is a number of a kind here -/
def aIs (kind number : Int32) (A : Ast) : Bool := decide (0 ≤ kind ∧ kind < 8 ∧ 1 ≤ number ∧ number ≤ 40) && aHr A kind.toNatClampNeg number.toNatClampNeg
def aDropI (kind number : Int32) (A : Ast) : Ast := if aIs kind number A = true then aDrop kind.toNatClampNeg number.toNatClampNeg A else A
/-- the greatest place of 1 .. n at which f is; how many there are -/
def gr (f : Nat → Bool) : Nat → Nat
  | 0 => 0
  | n + 1 => if f (n + 1) = true then n + 1 else gr f n
def cn (f : Nat → Bool) : Nat → Nat
  | 0 => 0
  | n + 1 => cn f n + (if f (n + 1) = true then 1 else 0)
/-- what always holds of such a value -/
def Aok (A : Ast) : Prop := (∀ k, k < 8 → aMd A k ≤ 40 ∧ ∀ j, aHr A k j = true → 1 ≤ j ∧ j ≤ aMd A k) ∧ aCn A ≤ 20
/-- the class's rows hold it -/
def RC (mf : Nat → Int32) (hf tf vf : Nat → Int64) (A : Ast) : Prop :=
  (∀ k, k < 8 → mf k = nI (aMd A k) ∧ tf k = aTl A k ∧ ∀ j, j < 64 → bL (hf k) j = aHr A k j) ∧ ∀ i, i < aCn A → vf i = aRw A i
/-- an object Holdings at the places b .. b + 4 -/
def HoldAt (q : ClassId × ClassId × ClassId × ClassId) (ad : Nat → Nat) (en : Nat → va_E) (b : Nat) (A : Ast) : Prop :=
  ∃ (mf : Nat → Int32) (hf tf vf : Nat → Int64), en b = .inr (1, [.ref (ad (b + 1)), .ref (ad (b + 2)), .ref (ad (b + 3)), .ref (ad (b + 4)), .int (nI (aCn A))]) ∧ en (b + 1) = .inl (q.1, 8, .inl mf) ∧ en (b + 2) = .inl (q.2.1, 8, .inr (.inl hf)) ∧ en (b + 3) = .inl (q.2.1, 8, .inr (.inl tf)) ∧ en (b + 4) = .inl (q.2.1, 20, .inr (.inl vf)) ∧ RC mf hf tf vf A
/-- a call's plan: what it wants, how many acts, their sorts and kinds, at which act it is to fail, with what -/
abbrev Pst : Type := Int32 × Nat × (Nat → Int32) × (Nat → Int32) × Int32 × Int32
def PlanAt (q : ClassId × ClassId × ClassId × ClassId) (ad : Nat → Nat) (en : Nat → va_E) (b : Nat) (P : Pst) : Prop :=
  ∃ (sf kf : Nat → Int32), en b = .inr (2, [.int P.1, .int (nI P.2.1), .ref (ad (b + 1)), .ref (ad (b + 2)), .int P.2.2.2.2.1, .int P.2.2.2.2.2]) ∧ en (b + 1) = .inl (q.1, 6, .inl sf) ∧ en (b + 2) = .inl (q.1, 6, .inl kf) ∧ ∀ i, i < P.2.1 → sf i = P.2.2.1 i ∧ kf i = P.2.2.2.1 i
def pAdd (s k : Int32) (P : Pst) : Pst := if P.2.1 < 6 then (P.1, P.2.1 + 1, upd P.2.2.1 P.2.1 s, upd P.2.2.2.1 P.2.1 k, P.2.2.2.2) else P
/-! numbers -/
theorem kd_cases (x : Int32) {n : Nat} (hn : n < 2 ^ 31) : (∃ k, k < n ∧ x = nI k) ∨ ¬ (0 ≤ x ∧ x < nI n) := by
  rcases pk_ix x hn with h | h | ⟨j, h, e⟩
  · exact Or.inr (fun z => Int32.lt_irrefl (Int32.lt_of_le_of_lt z.1 h))
  · exact Or.inr (fun z => Int32.lt_irrefl (Int32.lt_of_le_of_lt h z.2))
  · exact Or.inl ⟨j, h, e⟩
theorem m1_ : ∀ l, l < 64 → ((1 : Int64) <<< ((nI l).toInt64 &&& 63)).toBitVec = BitVec.twoPow 64 l := by decide +kernel
theorem bL_or (x : Int64) {i j : Nat} (hi : i < 64) (hj : j < 64) : bL (x ||| ((1 : Int64) <<< ((nI j).toInt64 &&& 63))) i = (bL x i || decide (i = j)) := by
  unfold bL
  show (x.toBitVec ||| ((1 : Int64) <<< ((nI j).toInt64 &&& 63)).toBitVec).getLsbD i = _
  rw [m1_ j hj, BitVec.getLsbD_or, BitVec.getLsbD_twoPow]
  by_cases h : i = j
  · subst h; simp [hi]
  · have h' : ¬ j = i := fun z => h z.symm
    simp [h, h']
theorem bL_andn (x : Int64) {i j : Nat} (hi : i < 64) (hj : j < 64) : bL (x &&& (((1 : Int64) <<< ((nI j).toInt64 &&& 63)) ^^^ (-1))) i = (bL x i && !decide (i = j)) := by
  unfold bL
  show (x.toBitVec &&& (((1 : Int64) <<< ((nI j).toInt64 &&& 63)).toBitVec ^^^ (-1 : Int64).toBitVec)).getLsbD i = _
  have e : (-1 : Int64).toBitVec = BitVec.allOnes 64 := by decide
  rw [m1_ j hj, e, BitVec.getLsbD_and, BitVec.getLsbD_xor, BitVec.getLsbD_twoPow, BitVec.getLsbD_allOnes]
  by_cases h : i = j
  · subst h; simp [hi]
  · have h' : ¬ j = i := fun z => h z.symm
    simp [h, h', hi]
theorem bL_test (x : Int64) {j : Nat} (hj : j < 64) : (x &&& ((1 : Int64) <<< ((nI j).toInt64 &&& 63))) = 0 ↔ bL x j = false := by
  unfold bL
  have e : (x &&& ((1 : Int64) <<< ((nI j).toInt64 &&& 63))) = 0 ↔ x.toBitVec &&& BitVec.twoPow 64 j = 0#64 := by
    rw [← m1_ j hj]
    constructor
    · intro h
      exact congrArg Int64.toBitVec h
    · intro h
      exact Int64.toBitVec_inj.mp h
  rw [e]
  constructor
  · intro h
    have h2 : (x.toBitVec &&& BitVec.twoPow 64 j).getLsbD j = false := by rw [h]; simp
    rw [BitVec.getLsbD_and, BitVec.getLsbD_twoPow] at h2
    simpa [hj] using h2
  · intro h
    apply BitVec.eq_of_getLsbD_eq
    intro i hi
    rw [BitVec.getLsbD_and, BitVec.getLsbD_twoPow]
    by_cases hh : j = i
    · subst hh; simp [h]
    · simp [hh]
