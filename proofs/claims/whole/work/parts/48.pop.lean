/-! Counting the bits of a word, a byte at a time -/
def pc8 (a : Nat) : Nat := a % 2 + a / 2 % 2 + a / 4 % 2 + a / 8 % 2 + a / 16 % 2 + a / 32 % 2 + a / 64 % 2 + a / 128 % 2
def msk (c : Nat) : Nat → Nat
  | 0 => 0
  | j + 1 => c + 256 * msk c j
def st1 (j n : Nat) : Nat := n - (n / 2 &&& msk 85 j)
def st2 (j n : Nat) : Nat := (n &&& msk 51 j) + (n / 4 &&& msk 51 j)
def st3 (j n : Nat) : Nat := (n + n / 16) &&& msk 15 j
def smB : Nat → Nat → Nat
  | 0, _ => 0
  | j + 1, n => pc8 (n % 256) + 256 * smB j (n / 256)
theorem and256 {x y c d : Nat} (hx : x < 256) (hc : c < 256) : (x + 256 * y) &&& (c + 256 * d) = (x &&& c) + 256 * (y &&& d) := by
  have h1 : ((x + 256 * y) &&& (c + 256 * d)) % 2 ^ 8 = x &&& c := by
    rw [Nat.and_mod_two_pow]
    congr 1 <;> omega
  have h2 : ((x + 256 * y) &&& (c + 256 * d)) / 2 ^ 8 = y &&& d := by
    rw [Nat.and_div_two_pow]
    congr 1 <;> omega
  omega
theorem t1 : ∀ a, a < 256 → ∀ b, b < 2 → (a / 2 + 128 * b) &&& 85 = a / 2 &&& 85 := by decide +kernel
theorem t1l : ∀ a, a < 256 → (a / 2 &&& 85) ≤ a := by decide +kernel
theorem t2 : ∀ a, a < 256 → ∀ b, b < 4 → (a / 4 + 64 * b) &&& 51 = a / 4 &&& 51 := by decide +kernel
theorem t3 : ∀ a, a < 256 → ((((a - (a / 2 &&& 85)) &&& 51) + ((a - (a / 2 &&& 85)) / 4 &&& 51)) + (((a - (a / 2 &&& 85)) &&& 51) + ((a - (a / 2 &&& 85)) / 4 &&& 51)) / 16) &&& 15 = pc8 a := by decide +kernel
theorem s1 {j a b : Nat} (ha : a < 256) : st1 (j + 1) (a + 256 * b) = (a - (a / 2 &&& 85)) + 256 * st1 j b := by
  unfold st1
  rw [show msk 85 (j + 1) = 85 + 256 * msk 85 j from rfl]
  have e : (a + 256 * b) / 2 = (a / 2 + 128 * (b % 2)) + 256 * (b / 2) := by omega
  rw [e, and256 (by omega) (by decide), t1 a ha (b % 2) (by omega)]
  have h1 := t1l a ha
  have h2 : b / 2 &&& msk 85 j ≤ b / 2 := Nat.and_le_left
  omega
theorem s2 {j a b : Nat} (ha : a < 256) : st2 (j + 1) (a + 256 * b) = ((a &&& 51) + (a / 4 &&& 51)) + 256 * st2 j b := by
  unfold st2
  rw [show msk 51 (j + 1) = 51 + 256 * msk 51 j from rfl]
  have e : (a + 256 * b) / 4 = (a / 4 + 64 * (b % 4)) + 256 * (b / 4) := by omega
  rw [e, and256 ha (by decide), and256 (by omega) (by decide), t2 a ha (b % 4) (by omega)]
  omega
theorem t4 : ∀ a, a < 256 → (a &&& 51) + (a / 4 &&& 51) ≤ 102 ∧ ((a &&& 51) + (a / 4 &&& 51)) % 16 ≤ 6 := by decide +kernel
theorem a15 (x : Nat) : x &&& 15 = x % 16 := Nat.and_two_pow_sub_one_eq_mod x 4
theorem s2q {j n : Nat} : st2 j n % 16 ≤ 6 := by
  match j with
  | 0 =>
    unfold st2
    rw [show msk 51 0 = 0 from rfl, Nat.and_zero, Nat.and_zero]
    decide
  | j + 1 =>
    rw [show n = n % 256 + 256 * (n / 256) by omega, s2 (by omega)]
    have := (t4 (n % 256) (by omega)).2
    omega
theorem s3 {j A B : Nat} (hA : A ≤ 102) (hB : B % 16 ≤ 6) : st3 (j + 1) (A + 256 * B) = ((A + A / 16) &&& 15) + 256 * st3 j B := by
  unfold st3
  rw [show msk 15 (j + 1) = 15 + 256 * msk 15 j from rfl]
  have e : A + 256 * B + (A + 256 * B) / 16 = (A + A / 16 + 16 * (B % 16)) + 256 * (B + B / 16) := by omega
  rw [e, and256 (by omega) (by decide), a15, a15]
  omega
theorem s1lt : ∀ a, a < 256 → a - (a / 2 &&& 85) < 256 := by decide +kernel
theorem s123 : ∀ j n, st3 j (st2 j (st1 j n)) = smB j n
  | 0, n => by
    show _ &&& 0 = 0
    exact Nat.and_zero _
  | j + 1, n => by
    rw [show n = n % 256 + 256 * (n / 256) by omega, s1 (by omega), s2 (s1lt _ (by omega)), s3 (t4 _ (s1lt _ (by omega))).1 s2q, t3 _ (by omega), s123 j]
    rw [smB]
    congr 2 <;> (congr 1; omega)
