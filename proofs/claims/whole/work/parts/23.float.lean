/-! Floats: how large the numbers are, and that no NaN comes -/
abbrev nn (x : UInt32) : Prop := FP.Core.val32 x ≠ .nan
theorem nn_v {x : UInt32} (h : nn x) : vf_n32 x := by
  unfold vf_n32
  rw [UInt32.le_iff_toNat_le, FP.Core.mask_toNat32]
  exact (FP.Core.ne_nan32 x).mp h
theorem nb_v {x : UInt32} (h : FP.Core.fIsNaN x = false) : vf_n32 x := nn_v ((FP.Core.notNaN_iff32 x).mp h)
def Mg (K : Nat) (x : UInt32) : Prop := x.toNat % 2 ^ 31 < K * 2 ^ 23
theorem Mg.fin {K : Nat} {x : UInt32} (h : Mg K x) (hK : K ≤ 255) : FP.Core.FFin x := FP.Core.fin_of_lt32 h hK
theorem Mg.mono {K K' : Nat} {x : UInt32} (h : Mg K x) (hK : K ≤ K') : Mg K' x := Nat.lt_of_lt_of_le h (Nat.mul_le_mul_right _ hK)
theorem Mg.nn {K : Nat} {x : UInt32} (h : Mg K x) (hK : K ≤ 255) : nn x := (h.fin hK).ne_nan
theorem Mg.v {K : Nat} {x : UInt32} (h : Mg K x) (hK : K ≤ 255) : vf_n32 x := nn_v (h.nn hK)
theorem Mg.add {K : Nat} {x y : UInt32} (h : Mg K x) (h2 : Mg K y) (hK : K ≤ 255) : Mg (K + 2) (FP.fadd x y) := FP.Core.fadd_mag h h2 hK
theorem Mg.sub {K : Nat} {x y : UInt32} (h : Mg K x) (h2 : Mg K y) (hK : K ≤ 255) : Mg (K + 2) (FP.fsub x y) := FP.Core.fsub_mag h h2 hK
theorem fle_key {a b : UInt32} (h : fLe a b = true) : nn a ∧ nn b ∧ FP.Core.fkey a ≤ FP.Core.fkey b := by
  unfold fLe fLt fEq at h
  simp only [Bool.or_eq_true, beq_iff_eq] at h
  have key : ∃ o, FP.Core.fcmp a b = some o ∧ (o = .lt ∨ o = .eq) := by
    rcases h with h | h
    · exact ⟨_, h, Or.inl rfl⟩
    · exact ⟨_, h, Or.inr rfl⟩
  obtain ⟨o, h1, h2⟩ := key
  obtain ⟨n1, n2⟩ := FP.Core.fcmp_some h1
  rw [FP.Core.fcmp_key n1 n2, Option.some.injEq] at h1
  refine ⟨n1, n2, ?_⟩
  rcases h2 with rfl | rfl
  · have := (FP.Core.compare_lt_iff _ _).mp h1; omega
  · have := (FP.Core.compare_eq_iff _ _).mp h1; omega
theorem fge_key {a b : UInt32} (h : fGe a b = true) : nn a ∧ nn b ∧ FP.Core.fkey b ≤ FP.Core.fkey a := by
  unfold fGe fGt fEq at h
  simp only [Bool.or_eq_true, beq_iff_eq] at h
  have key : ∃ o, FP.Core.fcmp a b = some o ∧ (o = .gt ∨ o = .eq) := by
    rcases h with h | h
    · exact ⟨_, h, Or.inl rfl⟩
    · exact ⟨_, h, Or.inr rfl⟩
  obtain ⟨o, h1, h2⟩ := key
  obtain ⟨n1, n2⟩ := FP.Core.fcmp_some h1
  rw [FP.Core.fcmp_key n1 n2, Option.some.injEq] at h1
  refine ⟨n1, n2, ?_⟩
  rcases h2 with rfl | rfl
  · have := (FP.Core.compare_gt_iff _ _).mp h1; omega
  · have := (FP.Core.compare_eq_iff _ _).mp h1; omega
theorem i2f_16 : FP.i2f (nI 16384) = 1182793728 := by decide +kernel
theorem i2f_m16 : FP.i2f (-(nI 16384)) = 3330277376 := by decide +kernel
theorem i2f_2 : FP.i2f (nI 256) = 1132462080 := by decide +kernel
theorem i2f_m2 : FP.i2f (-(nI 256)) = 3279945728 := by decide +kernel
theorem wi16 {x : UInt32} (h : wiF x (nI 16384) = true) : Mg 142 x := by
  unfold wiF at h
  rw [i2f_16, i2f_m16] at h
  simp only [Bool.and_eq_true] at h
  obtain ⟨-, -, h1⟩ := fge_key h.1
  obtain ⟨-, -, h2⟩ := fle_key h.2
  have e1 : FP.Core.fkey 1182793728 = 1182793728 := by decide +kernel
  have e2 : FP.Core.fkey 3330277376 = -1182793728 := by decide +kernel
  rw [e2] at h1
  rw [e1] at h2
  have h3 := x.toNat_lt
  unfold FP.Core.fkey at h1 h2
  unfold Mg
  by_cases q : 2 ^ 31 ≤ x.toNat
  · rw [if_pos q] at h1 h2; omega
  · rw [if_neg q] at h1 h2; omega
theorem wi2 {x : UInt32} (h : wiF x (nI 256) = true) : Mg 136 x := by
  unfold wiF at h
  rw [i2f_2, i2f_m2] at h
  simp only [Bool.and_eq_true] at h
  obtain ⟨-, -, h1⟩ := fge_key h.1
  obtain ⟨-, -, h2⟩ := fle_key h.2
  have e1 : FP.Core.fkey 1132462080 = 1132462080 := by decide +kernel
  have e2 : FP.Core.fkey 3279945728 = -1132462080 := by decide +kernel
  rw [e2] at h1
  rw [e1] at h2
  have h3 := x.toNat_lt
  unfold FP.Core.fkey at h1 h2
  unfold Mg
  by_cases q : 2 ^ 31 ≤ x.toNat
  · rw [if_pos q] at h1 h2; omega
  · rw [if_neg q] at h1 h2; omega
theorem gd_at {f : Nat → UInt32} (h : gdF f = true) : ∀ k, k < 6 → Mg 142 (f k) := by
  unfold gdF at h
  simp only [Bool.and_eq_true] at h
  obtain ⟨h0, h1, h2, h3, h4, h5⟩ := h
  intro k hk
  match k, hk with
  | 0, _ => exact wi16 h0
  | 1, _ => exact wi16 h1
  | 2, _ => exact wi16 h2
  | 3, _ => exact wi16 h3
  | 4, _ => exact wi16 h4
  | 5, _ => exact wi16 h5
  | n + 6, h => omega
/-- a movement that is allowed -/
def mvB (dx dy dz : UInt32) : Bool := wiF dx (nI 256) && (wiF dy (nI 256) && wiF dz (nI 256))
theorem mvB_at {dx dy dz : UInt32} (h : mvB dx dy dz = true) : Mg 136 dx ∧ Mg 136 dy ∧ Mg 136 dz := by
  unfold mvB at h
  simp only [Bool.and_eq_true] at h
  exact ⟨wi2 h.1, wi2 h.2.1, wi2 h.2.2⟩
/-- a box whose numbers are good, as numbers -/
def Gb (f : Nat → UInt32) : Prop := ∀ k, k < 6 → Mg 142 (f k)
def Wb (f : Nat → UInt32) : Prop := ∀ k, k < 6 → Mg 146 (f k)
theorem mv_ok {f : Nat → UInt32} {dx dy dz : UInt32} (h : Gb f) (hm : mvB dx dy dz = true) : mvN f dx dy dz := by
  obtain ⟨m1, m2, m3⟩ := mvB_at hm
  have key : ∀ k, k < 6 → ∀ d, Mg 136 d → vf_n32 (FP.fadd (f k) d) := fun k hk d hd => ((h k hk).add (hd.mono (by decide)) (by decide)).v (by decide)
  exact ⟨key 0 (by decide) _ m1, key 1 (by decide) _ m2, key 2 (by decide) _ m3, key 3 (by decide) _ m1, key 4 (by decide) _ m2, key 5 (by decide) _ m3⟩
theorem mg_q : Mg 142 1048576000 := by unfold Mg; decide
theorem mg_2 : Mg 129 FP.fconst2 := by unfold Mg; decide
theorem mg_0 : Mg 136 FP.fconst0 := by unfold Mg; decide
theorem mg_d2 {d : UInt32} (h : Mg 136 d) : Mg 144 (FP.fmul d FP.fconst2) := Mg.mono (K := 136 + 129 - 129 + 3) (FP.Core.fmul_mag (Ka := 136) (Kb := 129) h mg_2 (by decide) (by decide)) (by decide)
theorem wa_ok {f : Nat → UInt32} {a : Nat} {d : UInt32} (h1 : Mg 142 (f a)) (h2 : Mg 142 (f (a + 3))) (hd : Mg 136 d) : waN f a d := by
  have a1 := h1.sub mg_q (by decide)
  have a2 := h2.add mg_q (by decide)
  exact ⟨a1.v (by decide), a2.v (by decide), (mg_d2 hd).v (by decide), (a1.add (mg_d2 hd) (by decide)).v (by decide), (a2.add (mg_d2 hd) (by decide)).v (by decide)⟩
theorem wa_a {f : Nat → UInt32} {a : Nat} {d : UInt32} {k : Nat} (h : k ≠ a) (h2 : k ≠ a + 3) : waF f a d k = f k := by
  unfold waF
  split <;> rw [va_up_ne _ _ h2, va_up_ne _ _ h]
theorem wa_v {f : Nat → UInt32} {a : Nat} {d : UInt32} (h1 : Mg 142 (f a)) (h2 : Mg 142 (f (a + 3))) (hd : Mg 136 d) : Mg 146 (waF f a d a) ∧ Mg 146 (waF f a d (a + 3)) := by
  have a1 := h1.sub mg_q (by decide)
  have a2 := h2.add mg_q (by decide)
  have b1 := a1.add (mg_d2 hd) (by decide)
  have b2 := a2.add (mg_d2 hd) (by decide)
  unfold waF
  split
  · rw [va_up_self, va_up_ne _ _ (by omega), va_up_self]
    exact ⟨b1.mono (by decide), a2.mono (by decide)⟩
  · rw [va_up_self, va_up_ne _ _ (by omega), va_up_self]
    exact ⟨a1.mono (by decide), b2.mono (by decide)⟩
theorem wd_ok {f : Nat → UInt32} {dx dy dz : UInt32} (h : Gb f) (m1 : Mg 136 dx) (m2 : Mg 136 dy) (m3 : Mg 136 dz) : wdN f dx dy dz := by
  refine ⟨wa_ok (h 0 (by decide)) (h 3 (by decide)) m1, wa_ok ?_ ?_ m2, wa_ok ?_ ?_ m3⟩
  · rw [wa_a (by decide) (by decide)]; exact h 1 (by decide)
  · rw [wa_a (by decide) (by decide)]; exact h 4 (by decide)
  · rw [wa_a (by decide) (by decide), wa_a (by decide) (by decide)]; exact h 2 (by decide)
  · rw [wa_a (by decide) (by decide), wa_a (by decide) (by decide)]; exact h 5 (by decide)
theorem wd_v {f : Nat → UInt32} {dx dy dz : UInt32} (h : Gb f) (m1 : Mg 136 dx) (m2 : Mg 136 dy) (m3 : Mg 136 dz) : Wb (wdF f dx dy dz) := by
  have g1 : waF f 0 dx 1 = f 1 := wa_a (by decide) (by decide)
  have g4 : waF f 0 dx 4 = f 4 := wa_a (by decide) (by decide)
  have g2 : waF (waF f 0 dx) 1 dy 2 = f 2 := by rw [wa_a (by decide) (by decide), wa_a (by decide) (by decide)]
  have g5 : waF (waF f 0 dx) 1 dy 5 = f 5 := by rw [wa_a (by decide) (by decide), wa_a (by decide) (by decide)]
  have v0 := wa_v (a := 0) (h 0 (by decide)) (h 3 (by decide)) m1
  have v1 := wa_v (f := waF f 0 dx) (a := 1) (by rw [g1]; exact h 1 (by decide)) (by rw [g4]; exact h 4 (by decide)) m2
  have v2 := wa_v (f := waF (waF f 0 dx) 1 dy) (a := 2) (by rw [g2]; exact h 2 (by decide)) (by rw [g5]; exact h 5 (by decide)) m3
  intro k hk
  unfold wdF
  match k, hk with
  | 0, _ => rw [wa_a (by decide) (by decide), wa_a (by decide) (by decide)]; exact v0.1
  | 1, _ => rw [wa_a (by decide) (by decide)]; exact v1.1
  | 2, _ => exact v2.1
  | 3, _ => rw [wa_a (by decide) (by decide), wa_a (by decide) (by decide)]; exact v0.2
  | 4, _ => rw [wa_a (by decide) (by decide)]; exact v1.2
  | 5, _ => exact v2.2
  | n + 6, h => omega
theorem en_ok {f g : Nat → UInt32} (hf : Wb f) (hg : Gb g) : enN f g := by
  intro i hi
  have d1 := (hg (3 + i) (by omega)).sub (hg i (by omega)) (by decide)
  have e1 := (hf i (by omega)).sub ((hg i (by omega)).mono (by decide)) (by decide)
  have e2 := (hf (3 + i) (by omega)).sub ((hg i (by omega)).mono (by decide)) (by decide)
  refine ⟨d1.v (by decide), e1.v (by decide), e2.v (by decide), fun hz => ?_⟩
  have nz : ¬ FP.Core.FZero (enD g i) := fun q => by
    have := FP.Core.zero_iff32.mpr q
    unfold fEq at hz
    rw [show FP.fcmp (enD g i) FP.fconst0 = some .eq from this] at hz
    exact absurd hz (by decide)
  exact ⟨nb_v (FP.Core.fdiv_out (e1.fin (by decide)).notNaN (d1.fin (by decide)) nz), nb_v (FP.Core.fdiv_out (e2.fin (by decide)).notNaN (d1.fin (by decide)) nz)⟩
theorem fcmp_nn {x y : UInt32} (hx : nn x) (hy : nn y) : ∃ o, FP.fcmp x y = some o := ⟨_, FP.Core.fcmp_key hx hy⟩
theorem fle_n {x y : UInt32} (hx : nn x) (hy : nn y) : fLe x y = !(fGt x y) := by
  obtain ⟨o, h⟩ := fcmp_nn hx hy
  unfold fLe fLt fEq fGt
  rw [h]
  cases o <;> decide
theorem fge_n {x y : UInt32} (hx : nn x) (hy : nn y) : fGe x y = !(fLt x y) := by
  obtain ⟨o, h⟩ := fcmp_nn hx hy
  unfold fGe fGt fEq fLt
  rw [h]
  cases o <;> decide
