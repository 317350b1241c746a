/-! Pure rows: what a step of the class's rows does to the mathematical value. -/
theorem z01_f {p : Prop} [Decidable p] {r : Int32} (h : r = if p then 1 else 0) (c : r = 0) : ¬ p := by
  intro hp
  rw [if_pos hp] at h
  rw [h] at c
  exact absurd c (by decide)
theorem z01_t {p : Prop} [Decidable p] {r : Int32} (h : r = if p then 1 else 0) (c : ¬ r = 0) : p := by
  by_cases hp : p
  · exact hp
  · rw [if_neg hp] at h
    exact absurd h c
theorem z01_r {p : Prop} [Decidable p] {r : Int32} (h : r = if p then 1 else 0) : r = 0 ∨ r = 1 := by
  by_cases hp : p
  · rw [if_pos hp] at h; exact Or.inr h
  · rw [if_neg hp] at h; exact Or.inl h
theorem RC_add {mf : Nat → Int32} {hf tf vf : Nat → Int64} {A : Ast} (h : RC mf hf tf vf A) (hc : aCn A < 20) (v : Int64) : RC mf hf tf (vp_updL vf (aCn A) v) (aAdd v A) := by
  unfold aAdd
  rw [if_pos hc]
  refine ⟨h.1, fun i hi => ?_⟩
  show vp_updL vf (aCn A) v i = vp_updL (aRw A) (aCn A) v i
  have hi : i < aCn A + 1 := hi
  by_cases e : i = aCn A
  · rw [e, pk_uLs, pk_uLs]
  · rw [pk_uLn e, pk_uLn e]
    exact h.2 i (by omega)
theorem aCn_add {A : Ast} (hc : aCn A < 20) (v : Int64) : aCn (aAdd v A) = aCn A + 1 := by
  unfold aAdd
  rw [if_pos hc]
theorem aAdd_no {A : Ast} (hc : ¬ aCn A < 20) (v : Int64) : aAdd v A = A := by
  unfold aAdd
  rw [if_neg hc]
theorem Aok_add {A : Ast} (h : Aok A) (v : Int64) : Aok (aAdd v A) := by
  unfold aAdd
  split
  · exact ⟨h.1, by show aCn A + 1 ≤ 20; omega⟩
  · exact h
theorem aMake_no {A : Ast} {k : Nat} (hc : ¬ aMd A k < 40) : aMake k A = A := by
  unfold aMake
  rw [if_neg hc]
theorem aCn_make (k : Nat) (A : Ast) : aCn (aMake k A) = aCn A := by
  unfold aMake
  split <;> rfl
theorem Aok_make {A : Ast} (h : Aok A) (k : Nat) : Aok (aMake k A) := by
  unfold aMake
  split
  · rename_i hc
    refine ⟨fun i hi => ?_, h.2⟩
    show (if i = k then aMd A k + 1 else aMd A i) ≤ 40 ∧ ∀ j, (if i = k ∧ j = aMd A k + 1 then true else aHr A i j) = true → 1 ≤ j ∧ j ≤ (if i = k then aMd A k + 1 else aMd A i)
    have hi' := h.1 i hi
    by_cases e : i = k
    · subst e
      rw [if_pos rfl]
      refine ⟨by omega, fun j hj => ?_⟩
      by_cases ej : j = aMd A i + 1
      · omega
      · rw [if_neg (fun z => ej z.2)] at hj
        have := hi'.2 j hj
        omega
    · rw [if_neg e]
      refine ⟨hi'.1, fun j hj => ?_⟩
      rw [if_neg (fun z => e z.1)] at hj
      exact hi'.2 j hj
  · exact h
theorem RC_make {mf : Nat → Int32} {hf tf vf : Nat → Int64} {A : Ast} (h : RC mf hf tf vf A) {k : Nat} (hk : k < 8) (hc : aMd A k < 40) : RC (upd mf k (nI (aMd A k + 1))) (vp_updL hf k (hf k ||| ((1 : Int64) <<< ((nI (aMd A k + 1)).toInt64 &&& 63)))) tf vf (aMake k A) := by
  unfold aMake
  rw [if_pos hc]
  refine ⟨fun i hi => ?_, h.2⟩
  show upd mf k (nI (aMd A k + 1)) i = nI (if i = k then aMd A k + 1 else aMd A i) ∧ tf i = aTl A i ∧ ∀ j, j < 64 → bL (vp_updL hf k (hf k ||| ((1 : Int64) <<< ((nI (aMd A k + 1)).toInt64 &&& 63))) i) j = (if i = k ∧ j = aMd A k + 1 then true else aHr A i j)
  have hi' := h.1 i hi
  by_cases e : i = k
  · subst e
    rw [pk_us, if_pos rfl, pk_uLs]
    refine ⟨rfl, hi'.2.1, fun j hj => ?_⟩
    rw [bL_or _ hj (by omega), hi'.2.2 j hj]
    by_cases ej : j = aMd A i + 1
    · rw [if_pos ⟨rfl, ej⟩, ej]; simp
    · rw [if_neg (fun z => ej z.2)]; simp [ej]
  · rw [pk_un e, if_neg e, pk_uLn e]
    refine ⟨hi'.1, hi'.2.1, fun j hj => ?_⟩
    rw [if_neg (fun z => e z.1)]
    exact hi'.2.2 j hj
theorem aIs_nI {A : Ast} {k z : Nat} (hk : k < 8) (h1 : 1 ≤ z) (h2 : z ≤ 40) : aIs (nI k) (nI z) A = aHr A k z := by
  unfold aIs
  rw [nI_clamp (by omega), nI_clamp (by omega)]
  have h : (0 ≤ nI k ∧ nI k < 8 ∧ 1 ≤ nI z ∧ nI z ≤ 40) := ⟨nI_pos' (by omega), nI_lt (b := 8) hk (by omega), nI_le (a := 1) h1 (by omega), nI_le (b := 40) h2 (by omega)⟩
  simp [h]
theorem aIs_k {A : Ast} {kd z : Int32} (h : ¬ (0 ≤ kd ∧ kd < 8)) : aIs kd z A = false := by
  unfold aIs
  have h : ¬ (0 ≤ kd ∧ kd < 8 ∧ 1 ≤ z ∧ z ≤ 40) := fun w => h ⟨w.1, w.2.1⟩
  simp [h]
theorem aIs_z {A : Ast} {kd z : Int32} (h : ¬ (1 ≤ z ∧ z ≤ 40)) : aIs kd z A = false := by
  unfold aIs
  have h : ¬ (0 ≤ kd ∧ kd < 8 ∧ 1 ≤ z ∧ z ≤ 40) := fun w => h w.2.2
  simp [h]
theorem aIs_in {A : Ast} {kd z : Int32} (h : aIs kd z A = true) : ∃ k y : Nat, k < 8 ∧ 1 ≤ y ∧ y ≤ 40 ∧ kd = nI k ∧ z = nI y ∧ aHr A k y = true := by
  unfold aIs at h
  rw [Bool.and_eq_true, decide_eq_true_eq] at h
  obtain ⟨⟨h1, h2, h3, h4⟩, h5⟩ := h
  rcases kd_cases kd (n := 8) (by decide) with ⟨k, hk, rfl⟩ | hn
  · rcases kd_cases z (n := 41) (by decide) with ⟨y, hy, rfl⟩ | hn
    · have hy1 : 1 ≤ y := (nI_leI (a := 1) (by omega) (by omega)).mp h3
      rw [nI_clamp (by omega), nI_clamp (by omega)] at h5
      exact ⟨k, y, hk, hy1, by omega, rfl, rfl, h5⟩
    · exact absurd ⟨Int32.le_trans (by decide) h3, Int32.lt_of_le_of_lt h4 (by decide)⟩ hn
  · exact absurd ⟨h1, h2⟩ hn
theorem aCn_dropI (kd z : Int32) (A : Ast) : aCn (aDropI kd z A) = aCn A := by
  unfold aDropI aDrop
  split <;> rfl
theorem Aok_drop {A : Ast} (h : Aok A) (k z : Nat) : Aok (aDrop k z A) := by
  refine ⟨fun i hi => ⟨(h.1 i hi).1, fun j hj => ?_⟩, h.2⟩
  have hj : (if i = k ∧ j = z then false else aHr A i j) = true := hj
  by_cases e : i = k ∧ j = z
  · rw [if_pos e] at hj; cases hj
  · rw [if_neg e] at hj; exact (h.1 i hi).2 j hj
theorem Aok_dropI {A : Ast} (h : Aok A) (kd z : Int32) : Aok (aDropI kd z A) := by
  unfold aDropI
  split
  · exact Aok_drop h _ _
  · exact h
theorem aDropI_no {A : Ast} {kd z : Int32} (h : ¬ aIs kd z A = true) : aDropI kd z A = A := by
  unfold aDropI
  rw [if_neg h]
theorem RC_drop {mf : Nat → Int32} {hf tf vf : Nat → Int64} {A : Ast} (h : RC mf hf tf vf A) {k z : Nat} (hk : k < 8) (hz : z < 64) : RC mf (vp_updL hf k (hf k &&& (((1 : Int64) <<< ((nI z).toInt64 &&& 63)) ^^^ (-1)))) tf vf (aDrop k z A) := by
  refine ⟨fun i hi => ?_, h.2⟩
  show mf i = nI (aMd A i) ∧ tf i = aTl A i ∧ ∀ j, j < 64 → bL (vp_updL hf k (hf k &&& (((1 : Int64) <<< ((nI z).toInt64 &&& 63)) ^^^ (-1))) i) j = (if i = k ∧ j = z then false else aHr A i j)
  have hi' := h.1 i hi
  refine ⟨hi'.1, hi'.2.1, fun j hj => ?_⟩
  by_cases e : i = k
  · subst e
    rw [pk_uLs, bL_andn _ hj hz, hi'.2.2 j hj]
    by_cases ej : j = z
    · rw [if_pos ⟨rfl, ej⟩, ej]; simp
    · rw [if_neg (fun w => ej w.2)]; simp [ej]
  · rw [pk_uLn e, if_neg (fun w => e w.1)]
    exact hi'.2.2 j hj
theorem aDropI_nI {A : Ast} {k z : Nat} (hk : k < 8) (h1 : 1 ≤ z) (h2 : z ≤ 40) (h : aHr A k z = true) : aDropI (nI k) (nI z) A = aDrop k z A := by
  unfold aDropI
  rw [if_pos (by rw [aIs_nI hk h1 h2]; exact h), nI_clamp (by omega), nI_clamp (by omega)]
theorem RC_grow {mf : Nat → Int32} {hf tf vf : Nat → Int64} {A : Ast} (h : RC mf hf tf vf A) {k : Nat} (hk : k < 8) (x : Int64) : RC mf hf (vp_updL tf k (tf k + x)) vf (aGrow k x A) := by
  refine ⟨fun i hi => ?_, h.2⟩
  show mf i = nI (aMd A i) ∧ vp_updL tf k (tf k + x) i = (if i = k then aTl A k + x else aTl A i) ∧ ∀ j, j < 64 → bL (hf i) j = aHr A i j
  have hi' := h.1 i hi
  refine ⟨hi'.1, ?_, hi'.2.2⟩
  by_cases e : i = k
  · subst e
    rw [pk_uLs, if_pos rfl, hi'.2.1]
  · rw [pk_uLn e, if_neg e]; exact hi'.2.1
theorem aCn_take {A : Ast} (hc : 0 < aCn A) (k : Nat) : aCn (aTake k A) = aCn A - 1 := by
  unfold aTake
  rw [if_pos hc]
theorem aTake_no {A : Ast} (hc : ¬ 0 < aCn A) (k : Nat) : aTake k A = A := by
  unfold aTake
  rw [if_neg hc]
theorem Aok_take {A : Ast} (h : Aok A) (k : Nat) : Aok (aTake k A) := by
  unfold aTake
  split
  · have := h.2
    exact ⟨h.1, by show aCn A - 1 ≤ 20; omega⟩
  · exact h
theorem Aok_grow {A : Ast} (h : Aok A) (k : Nat) (x : Int64) : Aok (aGrow k x A) := h
theorem RC_take {mf : Nat → Int32} {hf tf vf wf : Nat → Int64} {A : Ast} (h : RC mf hf tf vf A) (hc : 0 < aCn A) {k : Nat} (hk : k < 8) (hv : ∀ i, i < aCn A - 1 → wf i = vf (i + 1)) : RC mf hf (vp_updL tf k (tf k + vf 0)) wf (aTake k A) := by
  unfold aTake
  rw [if_pos hc]
  refine ⟨fun i hi => ?_, fun i hi => ?_⟩
  · show mf i = nI (aMd A i) ∧ vp_updL tf k (tf k + vf 0) i = (if i = k then aTl A k + aRw A 0 else aTl A i) ∧ ∀ j, j < 64 → bL (hf i) j = aHr A i j
    have hi' := h.1 i hi
    refine ⟨hi'.1, ?_, hi'.2.2⟩
    by_cases e : i = k
    · subst e
      rw [pk_uLs, if_pos rfl, hi'.2.1, h.2 0 hc]
    · rw [pk_uLn e, if_neg e]; exact hi'.2.1
  · show wf i = aRw A (i + 1)
    have hi : i < aCn A - 1 := hi
    rw [hv i hi, h.2 (i + 1) (by omega)]
/-! the greatest, and how many -/
theorem gr_le (f : Nat → Bool) : ∀ n, gr f n ≤ n
  | 0 => Nat.le_refl 0
  | n + 1 => by
    unfold gr
    split
    · exact Nat.le_refl _
    · exact Nat.le_succ_of_le (gr_le f n)
theorem gr_is (f : Nat → Bool) : ∀ n, 0 < gr f n → f (gr f n) = true
  | 0 => fun h => absurd h (Nat.lt_irrefl 0)
  | n + 1 => by
    unfold gr
    split
    · intro _; assumption
    · exact gr_is f n
theorem gr_up (f : Nat → Bool) (m : Nat) : ∀ n, m ≤ n → (∀ j, m < j → j ≤ n → f j = false) → gr f n = gr f m
  | 0, h, _ => by have : m = 0 := by omega
                  rw [this]
  | n + 1, h, hf => by
    by_cases e : m = n + 1
    · rw [e]
    · show (if f (n + 1) = true then n + 1 else gr f n) = gr f m
      rw [if_neg (by rw [hf (n + 1) (by omega) (Nat.le_refl _)]; decide)]
      exact gr_up f m n (by omega) (fun j h1 h2 => hf j h1 (by omega))
theorem cn_up (f : Nat → Bool) (m : Nat) : ∀ n, m ≤ n → (∀ j, m < j → j ≤ n → f j = false) → cn f n = cn f m
  | 0, h, _ => by have : m = 0 := by omega
                  rw [this]
  | n + 1, h, hf => by
    by_cases e : m = n + 1
    · rw [e]
    · show cn f n + (if f (n + 1) = true then 1 else 0) = cn f m
      rw [if_neg (by rw [hf (n + 1) (by omega) (Nat.le_refl _)]; decide), Nat.add_zero]
      exact cn_up f m n (by omega) (fun j h1 h2 => hf j h1 (by omega))
theorem cn_congr {f g : Nat → Bool} : ∀ n, (∀ j, 1 ≤ j → j ≤ n → f j = g j) → cn f n = cn g n
  | 0, _ => rfl
  | n + 1, h => by
    show cn f n + (if f (n + 1) = true then 1 else 0) = cn g n + (if g (n + 1) = true then 1 else 0)
    rw [cn_congr n (fun j h1 h2 => h j h1 (by omega)), h (n + 1) (by omega) (Nat.le_refl _)]
theorem cn_le (f : Nat → Bool) : ∀ n, cn f n ≤ n
  | 0 => Nat.le_refl 0
  | n + 1 => by
    show cn f n + (if f (n + 1) = true then 1 else 0) ≤ n + 1
    have := cn_le f n
    split <;> omega
def b2n (b : Bool) : Nat := if b = true then 1 else 0
theorem pcN_last : ∀ k x, pcN (k + 1) x = pcN k x + b2n (x.testBit k)
  | 0, x => by
    show x % 2 + 0 = 0 + b2n (x.testBit 0)
    rw [Nat.testBit_zero]
    unfold b2n
    by_cases h : x % 2 = 1
    · simp [h]
    · have : x % 2 = 0 := by omega
      simp [this]
  | k + 1, x => by
    show x % 2 + pcN (k + 1) (x / 2) = (x % 2 + pcN k (x / 2)) + b2n (x.testBit (k + 1))
    rw [pcN_last k (x / 2), Nat.testBit_succ]
    omega
theorem pcN_cn (x : Nat) : ∀ k, pcN (k + 1) x = b2n (x.testBit 0) + cn (fun j => x.testBit j) k
  | 0 => by rw [pcN_last]; show 0 + _ = _; unfold cn; omega
  | k + 1 => by
    rw [pcN_last, pcN_cn x k]
    show _ = b2n (x.testBit 0) + (cn (fun j => x.testBit j) k + (if x.testBit (k + 1) = true then 1 else 0))
    unfold b2n
    omega
theorem count_bits {x : Int64} {f : Nat → Bool} (h : ∀ j, j < 64 → bL x j = f j) (h0 : ∀ j, f j = true → 1 ≤ j ∧ j ≤ 40) : pcN 64 (x.toUInt64.toNat) = cn f 40 := by
  have hb : ∀ j, (x.toUInt64.toNat).testBit j = bL x j := fun j => rfl
  rw [pcN_cn _ 63]
  have z : b2n ((x.toUInt64.toNat).testBit 0) = 0 := by
    rw [hb, h 0 (by decide)]
    unfold b2n
    split
    · rename_i h9
      have := h0 0 h9
      omega
    · rfl
  rw [z, Nat.zero_add, cn_congr (g := f) 63 (fun j h1 h2 => by rw [hb]; exact h j (by omega))]
  refine cn_up f 40 63 (by decide) (fun j h1 h2 => ?_)
  cases hj : f j with
  | false => rfl
  | true => have := h0 j hj; omega
