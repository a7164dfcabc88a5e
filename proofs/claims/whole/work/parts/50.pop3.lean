/-! bitCount is the count of the set bits -/
theorem l_u {n k d : Nat} (hn : n < 2 ^ 64) (hk : k < 64) (hd : 2 ^ k = d) : ((lN n).toUInt64 >>> ((nI k).toInt64.toUInt64 &&& Int64.toUInt64 63)).toInt64 = lN (n / d) := by
  have hs : (UInt64.ofNat k).toNat = k := by
    simp [UInt64.toNat_ofNat']
    omega
  apply wb_inj
  apply BitVec.eq_of_toNat_eq
  rw [wb_cu k hk, wb_tn (Nat.lt_of_le_of_lt (Nat.div_le_self _ _) hn), ← hd]
  show ((lN n).toUInt64 >>> UInt64.ofNat k).toNat = _
  rw [UInt64.toNat_shiftRight, hs, Nat.mod_eq_of_lt hk, Nat.shiftRight_eq_div_pow]
  show (lN n).toBitVec.toNat / 2 ^ k = _
  rw [wb_tn hn]
theorem c85 : (6148914691236517205 : Int64) = lN (msk 85 8) := by decide +kernel
theorem c51 : (3689348814741910323 : Int64) = lN (msk 51 8) := by decide +kernel
theorem c15 : (1085102592571150095 : Int64) = lN (msk 15 8) := by decide +kernel
theorem m85 : msk 85 8 = 6148914691236517205 := by decide +kernel
theorem m51 : msk 51 8 = 3689348814741910323 := by decide +kernel
theorem m15 : msk 15 8 = 1085102592571150095 := by decide +kernel
theorem m1 : msk 1 8 = 72340172838076673 := by decide +kernel
theorem st2_le (m : Nat) : st2 8 m ≤ 7378697629483820646 := by
  have h1 : m &&& msk 51 8 ≤ msk 51 8 := Nat.and_le_right
  have h2 : m / 4 &&& msk 51 8 ≤ msk 51 8 := Nat.and_le_right
  unfold st2
  rw [m51] at h1 h2 ⊢
  omega
theorem pc8_le (a : Nat) : pc8 a ≤ 8 := by unfold pc8; omega
theorem smB_le : ∀ j n, smB j n ≤ 8 * msk 1 j
  | 0, _ => Nat.le_refl _
  | j + 1, n => by
    have h1 := smB_le j (n / 256)
    have h2 := pc8_le (n % 256)
    rw [smB, msk]
    omega
theorem bc_x {n : Nat} (hn : n < 2 ^ 64) : ∃ x4 x5 x6 : Nat, x4 = smB 8 n + smB 8 n / 256 ∧ x5 = x4 + x4 / 65536 ∧ x6 = x5 + x5 / 4294967296 ∧ bcF (lN n) = nI (x6 % 128) := by
  have a1 : st1 8 n < 2 ^ 64 := by unfold st1; omega
  have a2 : st2 8 (st1 8 n) < 2 ^ 64 := by have := st2_le (st1 8 n); omega
  have a2' : st2 8 (st1 8 n) + st2 8 (st1 8 n) / 16 < 2 ^ 64 := by have := st2_le (st1 8 n); omega
  have a3 : smB 8 n ≤ 578721382704613384 := by have := smB_le 8 n; rw [m1] at this; exact this
  have e3 := s123 8 n
  obtain ⟨x3, h3⟩ : ∃ z, z = smB 8 n := ⟨_, rfl⟩
  rw [← h3] at a3 e3
  refine ⟨x3 + x3 / 256, _, _, by rw [h3], rfl, rfl, ?_⟩
  obtain ⟨x4, h4⟩ : ∃ z, z = x3 + x3 / 256 := ⟨_, rfl⟩
  rw [← h4]
  obtain ⟨x5, h5⟩ : ∃ z, z = x4 + x4 / 65536 := ⟨_, rfl⟩
  rw [← h5]
  have b4 : x4 < 2 ^ 63 := by omega
  have b5 : x5 < 2 ^ 63 := by omega
  unfold bcF
  dsimp only
  rw [l_u (k := 1) (d := 2) hn (by decide) (by decide), c85, l_and (show n / 2 < 2 ^ 64 by omega) (show msk 85 8 < 2 ^ 64 by rw [m85]; decide), l_sub (show n / 2 &&& msk 85 8 ≤ n from Nat.le_trans Nat.and_le_left (Nat.div_le_self _ _)), show n - (n / 2 &&& msk 85 8) = st1 8 n from rfl]
  rw [l_u (k := 2) (d := 4) a1 (by decide) (by decide), c51, l_and a1 (show msk 51 8 < 2 ^ 64 by rw [m51]; decide), l_and (show st1 8 n / 4 < 2 ^ 64 by omega) (show msk 51 8 < 2 ^ 64 by rw [m51]; decide), l_add, show (st1 8 n &&& msk 51 8) + (st1 8 n / 4 &&& msk 51 8) = st2 8 (st1 8 n) from rfl]
  rw [l_u (k := 4) (d := 16) a2 (by decide) (by decide), l_add, c15, l_and a2' (show msk 15 8 < 2 ^ 64 by rw [m15]; decide), show (st2 8 (st1 8 n) + st2 8 (st1 8 n) / 16) &&& msk 15 8 = st3 8 (st2 8 (st1 8 n)) from rfl, e3]
  rw [l_u (k := 8) (d := 256) (show x3 < 2 ^ 64 by omega) (by decide) (by decide), l_add, ← h4]
  rw [l_u (k := 16) (d := 65536) (show x4 < 2 ^ 64 by omega) (by decide) (by decide), l_add, ← h5]
  rw [l_u (k := 32) (d := 4294967296) (show x5 < 2 ^ 64 by omega) (by decide) (by decide), l_add, lN_i, pk_and _ 7 (by decide)]
  congr 1
  show BitVec.toNat (BitVec.ofNat 32 (x5 + x5 / 4294967296)) % 2 ^ 7 = _
  rw [BitVec.toNat_ofNat]
  omega
theorem dv9 {A B D x : Nat} (h : A < D) (e : x = A + D * B) : x / D = B := by
  rw [e, Nat.add_mul_div_left _ _ (by omega), Nat.div_eq_of_lt h, Nat.zero_add]
theorem sm_a {b0 b1 b2 b3 y0 y1 y2 y3 y4 : Nat} (e0 : y0 = b0 + 256 * y1) (e1 : y1 = b1 + 256 * y2) (e2 : y2 = b2 + 256 * y3) (e3 : y3 = b3 + 256 * y4) : y0 = b0 + 256 * b1 + 65536 * b2 + 16777216 * b3 + 4294967296 * y4 := by
  subst e3 e2 e1 e0
  simp only [Nat.mul_add, ← Nat.mul_assoc, Nat.add_assoc, Nat.reduceMul]
theorem sm_b {b0 b1 y0 y1 y2 : Nat} (e0 : y0 = b0 + 256 * y1) (e1 : y1 = b1 + 256 * y2) : y0 = b0 + 256 * b1 + 65536 * y2 := by
  subst e1 e0
  simp only [Nat.mul_add, ← Nat.mul_assoc, Nat.add_assoc, Nat.reduceMul]
theorem sm_m {s w : Nat} (h : s ≤ 64) : (s + 256 * w) % 128 = s := by omega
theorem sm_l {b0 b1 b2 b3 b4 b5 b6 : Nat} (h0 : b0 ≤ 8) (h1 : b1 ≤ 8) (h2 : b2 ≤ 8) (h3 : b3 ≤ 8) (h4 : b4 ≤ 8) (h5 : b5 ≤ 8) (h6 : b6 ≤ 8) : (b0 + 256 * b1 + 65536 * b2 + 16777216 * b3) + (b1 + 256 * b2 + 65536 * b3 + 16777216 * b4) + (b2 + 256 * b3 + 65536 * b4 + 16777216 * b5) + (b3 + 256 * b4 + 65536 * b5 + 16777216 * b6) < 4294967296 := by omega
theorem sm_r {a b c d y z u v D : Nat} : (a + D * y) + (b + D * z) + (c + D * u) + (d + D * v) = (a + b + c + d) + D * (y + z + u + v) := by
  simp only [Nat.mul_add]
  omega
theorem sm_r2 {a b y z D : Nat} : (a + D * y) + (b + D * z) = (a + b) + D * (y + z) := by
  simp only [Nat.mul_add]
  omega
theorem sum8 {b0 b1 b2 b3 b4 b5 b6 b7 x3 x4 x5 x6 : Nat} (h0 : b0 ≤ 8) (h1 : b1 ≤ 8) (h2 : b2 ≤ 8) (h3 : b3 ≤ 8) (h4 : b4 ≤ 8) (h5 : b5 ≤ 8) (h6 : b6 ≤ 8) (h7 : b7 ≤ 8) (e3 : x3 = b0 + 256 * (b1 + 256 * (b2 + 256 * (b3 + 256 * (b4 + 256 * (b5 + 256 * (b6 + 256 * b7))))))) (e4 : x4 = x3 + x3 / 256) (e5 : x5 = x4 + x4 / 65536) (e6 : x6 = x5 + x5 / 4294967296) : x6 % 128 = b0 + b1 + b2 + b3 + b4 + b5 + b6 + b7 := by
  obtain ⟨y7, i7⟩ : ∃ z, z = b7 + 256 * 0 := ⟨_, rfl⟩
  obtain ⟨y6, i6⟩ : ∃ z, z = b6 + 256 * y7 := ⟨_, rfl⟩
  obtain ⟨y5, i5⟩ : ∃ z, z = b5 + 256 * y6 := ⟨_, rfl⟩
  obtain ⟨y4, i4⟩ : ∃ z, z = b4 + 256 * y5 := ⟨_, rfl⟩
  obtain ⟨y3, i3⟩ : ∃ z, z = b3 + 256 * y4 := ⟨_, rfl⟩
  obtain ⟨y2, i2⟩ : ∃ z, z = b2 + 256 * y3 := ⟨_, rfl⟩
  obtain ⟨y1, i1⟩ : ∃ z, z = b1 + 256 * y2 := ⟨_, rfl⟩
  have i0 : x3 = b0 + 256 * y1 := by rw [e3, i1, i2, i3, i4, i5, i6, i7, Nat.mul_zero, Nat.add_zero]
  clear e3
  have q4 : x4 = x3 + y1 := by rw [e4, dv9 (show b0 < 256 by omega) i0]
  clear e4
  have q5 : x4 / 65536 = y2 + y3 := dv9 (A := (b0 + 256 * b1) + (b1 + 256 * b2)) (by clear i0 i1 i2 i3 i4 i5 i6 i7 q4 e5 e6; omega) (by rw [q4, ← sm_r2, ← sm_b i0 i1, ← sm_b i1 i2])
  have q6 : x5 = x3 + y1 + y2 + y3 := by rw [e5, q5, q4, Nat.add_assoc _ y2]
  clear q5 e5 q4
  have q8 : x5 / 4294967296 = y4 + y5 + y6 + y7 := dv9 (sm_l h0 h1 h2 h3 h4 h5 h6) (by rw [q6, ← sm_r, ← sm_a i0 i1 i2 i3, ← sm_a i1 i2 i3 i4, ← sm_a i2 i3 i4 i5, ← sm_a i3 i4 i5 i6])
  have q9 : x6 = (b0 + b1 + b2 + b3 + b4 + b5 + b6 + b7) + 256 * (y1 + y2 + y3 + y4 + y5 + y6 + y7) := by
    rw [e6, q8, q6]
    clear e6 q8 q6
    omega
  rw [q9]
  exact sm_m (by clear q9 e6 q8 q6 i0 i1 i2 i3 i4 i5 i6 i7; omega)
theorem bc_8 {n : Nat} (hn : n < 2 ^ 64) : bcF (lN n) = nI (pc8 (n % 256) + pc8 (n / 256 % 256) + pc8 (n / 256 / 256 % 256) + pc8 (n / 256 / 256 / 256 % 256) + pc8 (n / 256 / 256 / 256 / 256 % 256) + pc8 (n / 256 / 256 / 256 / 256 / 256 % 256) + pc8 (n / 256 / 256 / 256 / 256 / 256 / 256 % 256) + pc8 (n / 256 / 256 / 256 / 256 / 256 / 256 / 256 % 256)) := by
  obtain ⟨x4, x5, x6, h4, h5, h6, e⟩ := bc_x hn
  have e3 : smB 8 n = pc8 (n % 256) + 256 * (pc8 (n / 256 % 256) + 256 * (pc8 (n / 256 / 256 % 256) + 256 * (pc8 (n / 256 / 256 / 256 % 256) + 256 * (pc8 (n / 256 / 256 / 256 / 256 % 256) + 256 * (pc8 (n / 256 / 256 / 256 / 256 / 256 % 256) + 256 * (pc8 (n / 256 / 256 / 256 / 256 / 256 / 256 % 256) + 256 * (pc8 (n / 256 / 256 / 256 / 256 / 256 / 256 / 256 % 256)))))))) := by simp only [smB, Nat.mul_zero, Nat.add_zero]
  have z := sum8 (pc8_le _) (pc8_le _) (pc8_le _) (pc8_le _) (pc8_le _) (pc8_le _) (pc8_le _) (pc8_le _) e3 h4 h5 h6
  rw [e, z]
theorem ct_n (n k : Nat) : ctB (fun b => n.testBit b) (k + 1) = ctB (fun b => n.testBit b) k + n / 2 ^ k % 2 := by
  rw [ctB]
  congr 1
  rw [Nat.testBit_eq_decide_div_mod_eq]
  have : n / 2 ^ k % 2 < 2 := Nat.mod_lt _ (by decide)
  by_cases h : n / 2 ^ k % 2 = 1
  · rw [if_pos (by simp [h]), h]
  · rw [if_neg (by simp [h])]
    omega
theorem ct_byte (n j : Nat) : ctB (fun b => n.testBit b) (8 * j + 8) = ctB (fun b => n.testBit b) (8 * j) + pc8 (n / 2 ^ (8 * j) % 256) := by
  have h : ∀ i, n / 2 ^ (8 * j + i) = n / 2 ^ (8 * j) / 2 ^ i := fun i => by rw [Nat.pow_add, Nat.div_div_eq_div_mul]
  rw [show 8 * j + 8 = 8 * j + 7 + 1 from rfl, ct_n, h 7, show 8 * j + 7 = 8 * j + 6 + 1 from rfl, ct_n, h 6, show 8 * j + 6 = 8 * j + 5 + 1 from rfl, ct_n, h 5, show 8 * j + 5 = 8 * j + 4 + 1 from rfl, ct_n, h 4, show 8 * j + 4 = 8 * j + 3 + 1 from rfl, ct_n, h 3, show 8 * j + 3 = 8 * j + 2 + 1 from rfl, ct_n, h 2, show 8 * j + 2 = 8 * j + 1 + 1 from rfl, ct_n, h 1, ct_n]
  generalize n / 2 ^ (8 * j) = m
  have e1 : m % 256 % 2 = m % 2 := by omega
  have e2 : m % 256 / 2 % 2 = m / 2 ^ 1 % 2 := by omega
  have e3 : m % 256 / 4 % 2 = m / 2 ^ 2 % 2 := by omega
  have e4 : m % 256 / 8 % 2 = m / 2 ^ 3 % 2 := by omega
  have e5 : m % 256 / 16 % 2 = m / 2 ^ 4 % 2 := by omega
  have e6 : m % 256 / 32 % 2 = m / 2 ^ 5 % 2 := by omega
  have e7 : m % 256 / 64 % 2 = m / 2 ^ 6 % 2 := by omega
  have e8 : m % 256 / 128 % 2 = m / 2 ^ 7 % 2 := by omega
  unfold pc8
  rw [e1, e2, e3, e4, e5, e6, e7, e8]
  simp only [Nat.add_assoc]
theorem tb_lN {n b : Nat} (hb : b < 64) : tb (lN n) b = n.testBit b := by
  unfold tb
  rw [wb_tb, BitVec.getLsbD_ofNat]
  simp [hb]
theorem ctB_eq {p q : Nat → Bool} : ∀ {n : Nat}, (∀ k, k < n → p k = q k) → ctB p n = ctB q n
  | 0, _ => rfl
  | n + 1, h => by rw [ctB, ctB, ctB_eq (fun k hk => h k (by omega)), h n (by omega)]
theorem bc_ct (x : Int64) : bcF x = nI (ctB (tb x) 64) := by
  obtain ⟨n, hn, rfl⟩ := wb_of x
  rw [bc_8 hn, ctB_eq (q := fun b => n.testBit b) (fun k hk => tb_lN hk)]
  congr 1
  have d : ∀ k m : Nat, n / 2 ^ k / 256 = n / 2 ^ (k + 8) := fun k _ => by rw [Nat.div_div_eq_div_mul, Nat.pow_add]
  have q0 : n = n / 2 ^ 0 := by simp
  have q1 : n / 256 = n / 2 ^ 8 := rfl
  rw [q1, d 8 0, d 16 0, d 24 0, d 32 0, d 40 0, d 48 0]
  have b0 := ct_byte n 0
  have b1 := ct_byte n 1
  have b2 := ct_byte n 2
  have b3 := ct_byte n 3
  have b4 := ct_byte n 4
  have b5 := ct_byte n 5
  have b6 := ct_byte n 6
  have b7 := ct_byte n 7
  simp only [Nat.reduceMul, Nat.reduceAdd, Nat.mul_zero, Nat.zero_add] at b0 b1 b2 b3 b4 b5 b6 b7
  rw [b7, b6, b5, b4, b3, b2, b1, b0]
  rw [show ctB (fun b => n.testBit b) 0 = 0 from rfl, show n / 2 ^ 0 = n by simp]
  simp only [Nat.zero_add, Nat.reduceAdd]
