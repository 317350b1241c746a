/-! Long.bitCount: what its five steps do to the eight bytes of a number -/
def bM (b : Nat) : Nat → Nat
  | 0 => 0
  | k + 1 => b + 256 * bM b k
def bf1 (M x : Nat) : Nat := x - ((x / 2) &&& M)
def bf2 (M x : Nat) : Nat := (x &&& M) + ((x / 4) &&& M)
def bf3 (M x : Nat) : Nat := (x + x / 16) &&& M
def pop8 (a : Nat) : Nat := a % 2 + a / 2 % 2 + a / 4 % 2 + a / 8 % 2 + a / 16 % 2 + a / 32 % 2 + a / 64 % 2 + a / 128 % 2
theorem b_and256 {a u : Nat} (n v : Nat) (ha : a < 256) (hu : u < 256) : (a + 256 * n) &&& (u + 256 * v) = (a &&& u) + 256 * (n &&& v) := by
  have h1 : ((a + 256 * n) &&& (u + 256 * v)) % 2 ^ 8 = a &&& u := by
    rw [Nat.and_mod_two_pow]
    have e1 : (a + 256 * n) % 2 ^ 8 = a := by omega
    have e2 : (u + 256 * v) % 2 ^ 8 = u := by omega
    rw [e1, e2]
  have h2 : ((a + 256 * n) &&& (u + 256 * v)) / 2 ^ 8 = n &&& v := by
    rw [← Nat.shiftRight_eq_div_pow, Nat.shiftRight_and_distrib, Nat.shiftRight_eq_div_pow, Nat.shiftRight_eq_div_pow]
    have e1 : (a + 256 * n) / 2 ^ 8 = n := by omega
    have e2 : (u + 256 * v) / 2 ^ 8 = v := by omega
    rw [e1, e2]
  omega
theorem b_d1 : ∀ a, a < 256 → ∀ b, b < 2 → (a / 2 + 128 * b) &&& 85 = (a / 2) &&& 85 := by decide +kernel
theorem b_d2 : ∀ a, a < 256 → ∀ b, b < 4 → (a / 4 + 64 * b) &&& 51 = (a / 4) &&& 51 := by decide +kernel
theorem b_d3 : ∀ a, a < 69 → ∀ b, b < 5 → (a + a / 16 + 16 * b) &&& 15 = (a + a / 16) &&& 15 := by decide +kernel
theorem b_d4 : ∀ a, a < 256 → bf2 51 (bf1 85 a) < 69 ∧ bf2 51 (bf1 85 a) % 16 < 5 ∧ bf1 85 a < 256 ∧ bf3 15 (bf2 51 (bf1 85 a)) = pop8 a := by decide +kernel
theorem b_s1 (M a n : Nat) (ha : a < 256) : bf1 (85 + 256 * M) (a + 256 * n) = bf1 85 a + 256 * bf1 M n := by
  unfold bf1
  have e : (a + 256 * n) / 2 = (a / 2 + 128 * (n % 2)) + 256 * (n / 2) := by omega
  rw [e, b_and256 _ _ (by omega) (by omega), b_d1 a ha (n % 2) (by omega)]
  have h1 : (a / 2) &&& 85 ≤ a / 2 := Nat.and_le_left
  have h2 : (n / 2) &&& M ≤ n / 2 := Nat.and_le_left
  omega
theorem b_s2 (M a n : Nat) (ha : a < 256) : bf2 (51 + 256 * M) (a + 256 * n) = bf2 51 a + 256 * bf2 M n := by
  unfold bf2
  have e : (a + 256 * n) / 4 = (a / 4 + 64 * (n % 4)) + 256 * (n / 4) := by omega
  rw [e, b_and256 _ _ ha (by omega), b_and256 _ _ (by omega) (by omega), b_d2 a ha (n % 4) (by omega)]
  omega
theorem b_s3 (M a n : Nat) (ha : a < 69) (hn : n % 16 < 5) : bf3 (15 + 256 * M) (a + 256 * n) = bf3 15 a + 256 * bf3 M n := by
  unfold bf3
  have e : a + 256 * n + (a + 256 * n) / 16 = (a + a / 16 + 16 * (n % 16)) + 256 * (n + n / 16) := by omega
  rw [e, b_and256 _ _ (by omega) (by omega), b_d3 a ha (n % 16) hn]
theorem b_low (k n : Nat) : bf2 (bM 51 k) (bf1 (bM 85 k) n) % 16 < 5 := by
  cases k with
  | zero =>
    show bf2 0 _ % 16 < 5
    simp [bf2]
  | succ k =>
    have e : n = n % 256 + 256 * (n / 256) := by omega
    have ha : n % 256 < 256 := by omega
    rw [e]
    show bf2 (51 + 256 * bM 51 k) (bf1 (85 + 256 * bM 85 k) (n % 256 + 256 * (n / 256))) % 16 < 5
    rw [b_s1 _ _ _ ha, b_s2 _ _ _ (b_d4 _ ha).2.2.1]
    have h := (b_d4 _ ha).2.1
    omega
def bG (k x : Nat) : Nat := bf3 (bM 15 k) (bf2 (bM 51 k) (bf1 (bM 85 k) x))
theorem bG_0 (x : Nat) : bG 0 x = 0 := by
  show bf3 0 _ = 0
  simp [bf3]
theorem bG_s (k x : Nat) : bG (k + 1) x = pop8 (x % 256) + 256 * bG k (x / 256) := by
  have e : x = x % 256 + 256 * (x / 256) := by omega
  have ha : x % 256 < 256 := by omega
  have h : bG (k + 1) (x % 256 + 256 * (x / 256)) = pop8 (x % 256) + 256 * bG k (x / 256) := by
    show bf3 (15 + 256 * bM 15 k) (bf2 (51 + 256 * bM 51 k) (bf1 (85 + 256 * bM 85 k) (x % 256 + 256 * (x / 256)))) = _
    rw [b_s1 _ _ _ ha, b_s2 _ _ _ (b_d4 _ ha).2.2.1, b_s3 _ _ _ (b_d4 _ ha).1 (b_low k _), (b_d4 _ ha).2.2.2]
    rfl
  rw [← e] at h
  exact h
/-- how many of the first k bits of x are set -/
def pcN : Nat → Nat → Nat
  | 0, _ => 0
  | k + 1, x => x % 2 + pcN k (x / 2)
theorem pcN_8 (k x : Nat) : pcN (k + 8) x = pop8 (x % 256) + pcN k (x / 256) := by
  show x % 2 + (x / 2 % 2 + (x / 2 / 2 % 2 + (x / 2 / 2 / 2 % 2 + (x / 2 / 2 / 2 / 2 % 2 + (x / 2 / 2 / 2 / 2 / 2 % 2 + (x / 2 / 2 / 2 / 2 / 2 / 2 % 2 + (x / 2 / 2 / 2 / 2 / 2 / 2 / 2 % 2 + pcN k (x / 2 / 2 / 2 / 2 / 2 / 2 / 2 / 2)))))))) = _
  have e : x / 2 / 2 / 2 / 2 / 2 / 2 / 2 / 2 = x / 256 := by omega
  rw [e]
  unfold pop8
  omega
theorem pop8_le (a : Nat) : pop8 a ≤ 8 := by unfold pop8; omega
/-- the five steps, over Nat -/
theorem b_fold (x : Nat) (y0 y1 y2 y3 : Nat) (h0 : y0 = bG 8 x) (h1 : y1 = y0 + y0 / 256) (h2 : y2 = y1 + y1 / 65536) (h3 : y3 = y2 + y2 / 4294967296) : y3 < 18446744073709551616 ∧ y2 < 18446744073709551616 ∧ y1 < 18446744073709551616 ∧ y3 % 128 = pcN 64 x := by
  have e : pcN 64 x = pop8 (x % 256) + (pop8 (x / 256 % 256) + (pop8 (x / 256 / 256 % 256) + (pop8 (x / 256 / 256 / 256 % 256) + (pop8 (x / 256 / 256 / 256 / 256 % 256) + (pop8 (x / 256 / 256 / 256 / 256 / 256 % 256) + (pop8 (x / 256 / 256 / 256 / 256 / 256 / 256 % 256) + (pop8 (x / 256 / 256 / 256 / 256 / 256 / 256 / 256 % 256)))))))) := by
    rw [pcN_8 56, pcN_8 48, pcN_8 40, pcN_8 32, pcN_8 24, pcN_8 16, pcN_8 8, pcN_8 0]
    rfl
  rw [bG_s, bG_s, bG_s, bG_s, bG_s, bG_s, bG_s, bG_s, bG_0] at h0
  rw [e]
  have b0 := pop8_le (x % 256)
  have b1 := pop8_le (x / 256 % 256)
  have b2 := pop8_le (x / 256 / 256 % 256)
  have b3 := pop8_le (x / 256 / 256 / 256 % 256)
  have b4 := pop8_le (x / 256 / 256 / 256 / 256 % 256)
  have b5 := pop8_le (x / 256 / 256 / 256 / 256 / 256 % 256)
  have b6 := pop8_le (x / 256 / 256 / 256 / 256 / 256 / 256 % 256)
  have b7 := pop8_le (x / 256 / 256 / 256 / 256 / 256 / 256 / 256 % 256)
  generalize pop8 (x % 256) = p0 at *
  generalize pop8 (x / 256 % 256) = p1 at *
  generalize pop8 (x / 256 / 256 % 256) = p2 at *
  generalize pop8 (x / 256 / 256 / 256 % 256) = p3 at *
  generalize pop8 (x / 256 / 256 / 256 / 256 % 256) = p4 at *
  generalize pop8 (x / 256 / 256 / 256 / 256 / 256 % 256) = p5 at *
  generalize pop8 (x / 256 / 256 / 256 / 256 / 256 / 256 % 256) = p6 at *
  generalize pop8 (x / 256 / 256 / 256 / 256 / 256 / 256 / 256 % 256) = p7 at *
  clear e
  have q0 : y0 / 256 = p1 + 256 * p2 + 65536 * p3 + 16777216 * p4 + 4294967296 * p5 + 1099511627776 * p6 + 281474976710656 * p7 := by omega
  have q1 : y1 = (p0 + p1) + 256 * (p1 + p2) + 65536 * (p2 + p3) + 16777216 * (p3 + p4) + 4294967296 * (p4 + p5) + 1099511627776 * (p5 + p6) + 281474976710656 * (p6 + p7) + 72057594037927936 * p7 := by omega
  clear h1 q0 h0
  have q2 : y1 / 65536 = (p2 + p3) + 256 * (p3 + p4) + 65536 * (p4 + p5) + 16777216 * (p5 + p6) + 4294967296 * (p6 + p7) + 1099511627776 * p7 := by omega
  have q3 : y2 = (p0 + p1 + p2 + p3) + 256 * (p1 + p2 + p3 + p4) + 65536 * (p2 + p3 + p4 + p5) + 16777216 * (p3 + p4 + p5 + p6) + 4294967296 * (p4 + p5 + p6 + p7) + 1099511627776 * (p5 + p6 + p7) + 281474976710656 * (p6 + p7) + 72057594037927936 * p7 := by omega
  clear h2 q2
  have q4 : y2 / 4294967296 = (p4 + p5 + p6 + p7) + 256 * (p5 + p6 + p7) + 65536 * (p6 + p7) + 16777216 * p7 := by omega
  have q5 : y3 = (p0 + p1 + p2 + p3 + p4 + p5 + p6 + p7) + 256 * (p1 + p2 + p3 + p4 + p5 + p6 + p7) + 65536 * (p2 + p3 + p4 + p5 + p6 + p7) + 16777216 * (p3 + p4 + p5 + p6 + p7) + 4294967296 * (p4 + p5 + p6 + p7) + 1099511627776 * (p5 + p6 + p7) + 281474976710656 * (p6 + p7) + 72057594037927936 * p7 := by omega
  clear h3 q4
  refine ⟨by omega, by omega, by omega, by omega⟩
