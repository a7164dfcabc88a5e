/-! Bits of the class's words and of the model's ints, by one number; counts; the place of the k-th -/
def ib (x : Int32) (j : Nat) : Bool := x.toBitVec.getLsbD j
def ibt (f : Nat → Int32) (q : Nat) : Bool := ib (f (q / 32)) (q % 32)
def wbt (f : Nat → Int64) (q : Nat) : Bool := tb (f (q / 64)) (q % 64)
theorem hd_w (S : St) (i q : Nat) : hdS S i q = wbt (pwS S i) q := rfl
theorem ib_m : ∀ j, j < 32 → ∀ i, i < 32 → ib (nI 1 <<< (nI j &&& 31)) i = decide (i = j) := by decide +kernel
theorem ib_n1 : ∀ i, i < 32 → ib (-1) i = true := by decide +kernel
theorem ib_sm : ∀ j, j < 32 → ((nI j &&& 31).toBitVec.smod 32).toNat = j := by decide +kernel
theorem ib_one : ∀ i, i < 32 → ib (nI 1) i = decide (i = 0) := by decide +kernel
theorem ib_zero (i : Nat) : ib (nI 0) i = false := by
  unfold ib
  rw [show (nI 0).toBitVec = 0#32 from rfl]
  simp
theorem ib_and (x y : Int32) (i : Nat) : ib (x &&& y) i = (ib x i && ib y i) := by unfold ib; rw [Int32.toBitVec_and, BitVec.getLsbD_and]
theorem ib_or (x y : Int32) (i : Nat) : ib (x ||| y) i = (ib x i || ib y i) := by unfold ib; rw [Int32.toBitVec_or, BitVec.getLsbD_or]
theorem ib_xor (x y : Int32) (i : Nat) : ib (x ^^^ y) i = (ib x i ^^ ib y i) := by unfold ib; rw [Int32.toBitVec_xor, BitVec.getLsbD_xor]
theorem ib_ext {x y : Int32} (h : ∀ i, i < 32 → ib x i = ib y i) : x = y := Int32.toBitVec_inj.mp (BitVec.eq_of_getLsbD_eq h)
theorem ib_sh (x : Int32) {j : Nat} (hj : j < 32) : (x >>> (nI j &&& 31)).toBitVec = x.toBitVec.sshiftRight j := by
  apply BitVec.eq_of_toInt_eq
  rw [BitVec.toInt_sshiftRight]
  exact pk_shr x _ j (ib_sm j hj)
theorem ib_v (x : Int32) {j : Nat} (hj : j < 32) : (x >>> (nI j &&& 31)) &&& nI 1 = nI (if ib x j = true then 1 else 0) := by
  apply ib_ext
  intro i hi
  rw [ib_and, ib_one i hi]
  by_cases h0 : i = 0
  · subst h0
    have e : ib (x >>> (nI j &&& 31)) 0 = ib x j := by
      unfold ib
      rw [ib_sh x hj, BitVec.getLsbD_sshiftRight]
      simp [hj]
    rw [e]
    cases ib x j <;> decide
  · simp only [h0, decide_false, Bool.and_false]
    cases ib x j
    · exact (ib_zero i).symm
    · rw [if_pos rfl, ib_one i hi]
      simp [h0]
theorem ib_nar (x : Int32) {j : Nat} (hj : j < 32) : decide ((x >>> (nI j &&& 31)) &&& nI 1 = nI 1) = ib x j := by
  rw [ib_v x hj]
  cases ib x j <;> decide
theorem ib_clr (x : Int32) {j i : Nat} (hj : j < 32) (hi : i < 32) : ib (x &&& ((nI 1 <<< (nI j &&& 31)) ^^^ (-1))) i = (ib x i && !(decide (i = j))) := by
  rw [ib_and, ib_xor, ib_m j hj i hi, ib_n1 i hi]
  simp
theorem ib_set (x : Int32) {j i : Nat} (hj : j < 32) (hi : i < 32) : ib (x ||| (nI 1 <<< (nI j &&& 31))) i = (ib x i || decide (i = j)) := by rw [ib_or, ib_m j hj i hi]
theorem ib_not (x y : Int32) {i : Nat} (hi : i < 32) : ib (x &&& (y ^^^ (-1))) i = (ib x i && !(ib y i)) := by
  rw [ib_and, ib_xor, ib_n1 i hi]
  simp
theorem tb_n1 : ∀ i, i < 64 → tb (-1) i = true := by decide +kernel
theorem tb_m : ∀ j, j < 64 → ∀ i, i < 64 → tb ((1 : Int64) <<< ((nI j).toInt64 &&& 63)) i = decide (i = j) := by decide +kernel
theorem tb_flip (w : Int64) {j i : Nat} (hj : j < 64) (hi : i < 64) : tb (tflip w j) i = (tb w i ^^ decide (i = j)) := by
  unfold tflip
  have e : ∀ x y : Int64, tb (x ^^^ y) i = (tb x i ^^ tb y i) := fun x y => by unfold tb; rw [Int64.toBitVec_xor, BitVec.getLsbD_xor]
  rw [e, tb_m j hj i hi]
theorem tb_df (a b : Nat → Int64) (k : Nat) {i : Nat} (hi : i < 64) : tb (dfW a b k) i = (tb (a k) i && !(tb (b k) i)) := by
  unfold dfW
  have e : ∀ x y : Int64, tb (x ^^^ y) i = (tb x i ^^ tb y i) := fun x y => by unfold tb; rw [Int64.toBitVec_xor, BitVec.getLsbD_xor]
  have e2 : ∀ x y : Int64, tb (x &&& y) i = (tb x i && tb y i) := fun x y => by unfold tb; rw [Int64.toBitVec_and, BitVec.getLsbD_and]
  rw [e2, e, tb_n1 i hi]
  simp
/-! Rows of bits -/
theorem bt_i (f : Nat → Int32) {a b : Nat} (hb : b < 512) : btF f a b = ibt f (a * 512 + b) := by
  unfold btF ibt
  rw [ib_nar _ (Nat.mod_lt _ (by decide)), show (a * 512 + b) / 32 = 16 * a + b / 32 by omega, show (a * 512 + b) % 32 = b % 32 by omega]
theorem ibt_clr (f : Nat → Int32) {j q : Nat} : ibt (va_up f (j / 32) (f (j / 32) &&& ((nI 1 <<< (nI (j % 32) &&& 31)) ^^^ (-1)))) q = (ibt f q && !(decide (q = j))) := by
  unfold ibt
  by_cases h : q / 32 = j / 32
  · rw [h, va_up_self, ib_clr _ (Nat.mod_lt _ (by decide)) (Nat.mod_lt _ (by decide))]
    congr 3
    exact propext ⟨fun z => by omega, fun z => by omega⟩
  · rw [va_up_ne _ _ h, show decide (q = j) = false from decide_eq_false (fun z => h (by rw [z]))]
    simp
theorem ibt_set (f : Nat → Int32) {j q : Nat} : ibt (va_up f (j / 32) (f (j / 32) ||| (nI 1 <<< (nI (j % 32) &&& 31)))) q = (ibt f q || decide (q = j)) := by
  unfold ibt
  by_cases h : q / 32 = j / 32
  · rw [h, va_up_self, ib_set _ (Nat.mod_lt _ (by decide)) (Nat.mod_lt _ (by decide))]
    congr 2
    exact propext ⟨fun z => by omega, fun z => by omega⟩
  · rw [va_up_ne _ _ h, show decide (q = j) = false from decide_eq_false (fun z => h (by rw [z]))]
    simp
theorem wbt_flip (f : Nat → Int64) {j q : Nat} : wbt (va_up f (j / 64) (tflip (f (j / 64)) (j % 64))) q = (wbt f q ^^ decide (q = j)) := by
  unfold wbt
  by_cases h : q / 64 = j / 64
  · rw [h, va_up_self, tb_flip _ (Nat.mod_lt _ (by decide)) (Nat.mod_lt _ (by decide))]
    congr 2
    exact propext ⟨fun z => by omega, fun z => by omega⟩
  · rw [va_up_ne _ _ h, show decide (q = j) = false from decide_eq_false (fun z => h (by rw [z]))]
    simp
/-! Counts -/
theorem ct_split (p : Nat → Bool) (m : Nat) : ∀ k, ctB p (m + k) = ctB p m + ctB (fun i => p (m + i)) k
  | 0 => rfl
  | k + 1 => by
    rw [← Nat.add_assoc, ctB, ct_split p m k, ctB]
    omega
theorem ct_one {p p' : Nat → Bool} {q : Nat} (h : ∀ k, k ≠ q → p' k = p k) : ∀ n, q < n → ctB p' n + (if p q = true then 1 else 0) = ctB p n + (if p' q = true then 1 else 0)
  | 0, hn => absurd hn (Nat.not_lt_zero _)
  | n + 1, hn => by
    rw [ctB, ctB]
    by_cases e : q = n
    · subst e
      have := ctB_eq (p := p') (q := p) (n := q) (fun k hk => h k (by omega))
      omega
    · have := ct_one h n (by omega)
      rw [h n (fun z => e z.symm)]
      omega
theorem ct_zero {p : Nat → Bool} {n : Nat} (h : ∀ k, k < n → p k = false) : ctB p n = 0 := by
  induction n with
  | zero => rfl
  | succ n ih => rw [ctB, ih (fun k hk => h k (by omega)), h n (by omega)]; rfl
theorem ct_w (f : Nat → Int64) (n : Nat) : ctB (wbt f) (64 * (n + 1)) = ctB (wbt f) (64 * n) + ctB (tb (f n)) 64 := by
  rw [Nat.mul_succ, ct_split]
  congr 1
  refine ctB_eq (fun i hi => ?_)
  unfold wbt
  rw [show (64 * n + i) / 64 = n by omega, show (64 * n + i) % 64 = i by omega]
theorem ct_i (f : Nat → Int32) (n : Nat) : ctB (ibt f) (32 * (n + 1)) = ctB (ibt f) (32 * n) + ctB (ib (f n)) 32 := by
  rw [Nat.mul_succ, ct_split]
  congr 1
  refine ctB_eq (fun i hi => ?_)
  unfold ibt
  rw [show (32 * n + i) / 32 = n by omega, show (32 * n + i) % 32 = i by omega]
theorem dfC_ct (a b : Nat → Int64) : ∀ n, dfC a b n = nI (ctB (wbt (dfW a b)) (64 * n))
  | 0 => rfl
  | n + 1 => by rw [dfC, dfC_ct a b n, bc_ct, nI_add, ct_w]
theorem wbI_ct (x : Int32) : ∀ j, j ≤ 32 → wbI x j = nI (ctB (ib x) j)
  | 0, _ => rfl
  | j + 1, h => by rw [wbI, wbI_ct x j (by omega), ib_v x (by omega), nI_add, ctB]
theorem biF_ct (f : Nat → Int32) : ∀ n, biF f n = nI (ctB (ibt f) (32 * n))
  | 0 => rfl
  | n + 1 => by
    rw [biF, ct_i, biF_ct f n]
    split
    · rename_i h
      rw [ct_zero (p := ib (f n)) (fun k _ => by rw [h]; exact ib_zero k)]
      rfl
    · rw [wbI_ct _ 32 (Nat.le_refl _), nI_add]
/-! The place of the k-th set bit -/
def nx (p : Nat → Bool) : Nat → Nat → Nat → Option Nat
  | 0, _, _ => none
  | n + 1, i, k => if p i = true then (if k = 0 then some i else nx p n (i + 1) (k - 1)) else nx p n (i + 1) k
def ctF (p : Nat → Bool) (i n : Nat) : Nat := ctB (fun j => p (i + j)) n
theorem ctF_s (p : Nat → Bool) (i n : Nat) : ctF p i (n + 1) = (if p i = true then 1 else 0) + ctF p (i + 1) n := by
  unfold ctF
  rw [Nat.add_comm n 1, ct_split]
  congr 1
  · rw [ctB, ctB]; simp
  · exact ctB_eq (fun k _ => by rw [show i + (1 + k) = i + 1 + k by omega])
theorem nx_none (p : Nat → Bool) : ∀ n i k, nx p n i k = none ↔ ctF p i n ≤ k
  | 0, i, k => by simp [nx, ctF, ctB]
  | n + 1, i, k => by
    rw [nx, ctF_s]
    by_cases h : p i = true
    · rw [if_pos h, if_pos h]
      by_cases hk : k = 0
      · rw [if_pos hk]; simp; omega
      · rw [if_neg hk, nx_none p n]; omega
    · rw [if_neg h, if_neg h, nx_none p n]; omega
theorem nx_lt (p : Nat → Bool) : ∀ n i k j, nx p n i k = some j → j < i + n
  | 0, i, k, j, h => by cases h
  | n + 1, i, k, j, h => by
    rw [nx] at h
    by_cases hp : p i = true
    · rw [if_pos hp] at h
      by_cases hk : k = 0
      · rw [if_pos hk] at h; cases h; omega
      · rw [if_neg hk] at h; have := nx_lt p n _ _ _ h; omega
    · rw [if_neg hp] at h; have := nx_lt p n _ _ _ h; omega
theorem nx_app (p : Nat → Bool) (m : Nat) : ∀ n i k, nx p (n + m) i k = (match nx p n i k with
    | some j => some j
    | none => nx p m (i + n) (k - ctF p i n))
  | 0, i, k => by rw [Nat.zero_add]; rfl
  | n + 1, i, k => by
    rw [show n + 1 + m = n + m + 1 by omega, nx, nx, ctF_s]
    by_cases h : p i = true
    · rw [if_pos h, if_pos h, if_pos h]
      by_cases hk : k = 0
      · rw [if_pos hk, if_pos hk]
      · rw [if_neg hk, if_neg hk, nx_app p m n, show i + 1 + n = i + (n + 1) by omega, show k - 1 - ctF p (i + 1) n = k - (1 + ctF p (i + 1) n) by omega]
    · rw [if_neg h, if_neg h, if_neg h, nx_app p m n, show i + 1 + n = i + (n + 1) by omega, Nat.zero_add]
theorem nx_sh {p r : Nat → Bool} {a : Nat} : ∀ n i k, (∀ j, j < n → p (a + (i + j)) = r (i + j)) → nx p n (a + i) k = (nx r n i k).map (fun j => a + j)
  | 0, i, k, _ => rfl
  | n + 1, i, k, h => by
    have h0 := h 0 (by omega)
    rw [Nat.add_zero] at h0
    have h1 : ∀ j, j < n → p (a + (i + 1 + j)) = r (i + 1 + j) := fun j hj => by have := h (j + 1) (by omega); rw [show i + 1 + j = i + (j + 1) by omega]; exact this
    rw [nx, nx, h0, show a + i + 1 = a + (i + 1) by omega, nx_sh n (i + 1) _ h1, nx_sh n (i + 1) _ h1]
    by_cases hp : r i = true
    · rw [if_pos hp, if_pos hp]
      by_cases hk : k = 0
      · rw [if_pos hk, if_pos hk]; rfl
      · rw [if_neg hk, if_neg hk]
    · rw [if_neg hp, if_neg hp]
theorem nx_eq {p r : Nat → Bool} : ∀ n i k, (∀ j, j < n → p (i + j) = r (i + j)) → nx p n i k = nx r n i k
  | 0, i, k, _ => rfl
  | n + 1, i, k, h => by
    have h0 := h 0 (by omega)
    rw [Nat.add_zero] at h0
    have h1 : ∀ j, j < n → p (i + 1 + j) = r (i + 1 + j) := fun j hj => by have := h (j + 1) (by omega); rw [show i + 1 + j = i + (j + 1) by omega]; exact this
    rw [nx, nx, h0, nx_eq n (i + 1) _ h1, nx_eq n (i + 1) _ h1]
theorem ctF_le (p : Nat → Bool) (i n : Nat) : ctF p i n ≤ n := ctB_le _ _
def nxV (o : Option Nat) : Int32 := match o with
  | some j => nI j
  | none => -1
theorem baF_nx (w : Int64) : ∀ n b k j, k < 2 ^ 31 → nx (tb w) n b k = some j → baF w n b (nI k) = nI j
  | 0, b, k, j, _, h => by cases h
  | n + 1, b, k, j, hk, h => by
    rw [nx] at h
    rw [baF]
    by_cases hp : tb w b = true
    · rw [if_pos hp] at h ⊢
      by_cases h0 : k = 0
      · rw [if_pos h0] at h
        subst h0
        cases h
        rw [if_pos nI_0]
      · rw [if_neg h0] at h
        rw [if_neg (nI_ne0 (by omega) hk), show k = k - 1 + 1 by omega, pk_m1]
        exact baF_nx w n (b + 1) (k - 1) j (by omega) h
    · rw [if_neg hp] at h ⊢
      exact baF_nx w n (b + 1) k j hk h
theorem caF_nx (f : Nat → Int64) : ∀ n i k, k < 2 ^ 31 → i + n ≤ 4096 → caF f n i (nI k) = nxV (nx (wbt f) (64 * n) (64 * i) k)
  | 0, i, k, _, _ => rfl
  | n + 1, i, k, hk, hn => by
    have hb : ∀ j, j < 64 → wbt f (64 * i + (0 + j)) = tb (f i) (0 + j) := fun j hj => by
      unfold wbt
      rw [show (64 * i + (0 + j)) / 64 = i by omega, show (64 * i + (0 + j)) % 64 = 0 + j by omega]
    have e1 := nx_sh (p := wbt f) (r := tb (f i)) (a := 64 * i) 64 0 k hb
    have e2 : ctF (wbt f) (64 * i) 64 = ctB (tb (f i)) 64 := by
      unfold ctF
      exact ctB_eq (fun j hj => by have := hb j hj; rw [Nat.zero_add] at this; exact this)
    have e3 : ctF (tb (f i)) 0 64 = ctB (tb (f i)) 64 := by
      unfold ctF
      exact ctB_eq (fun j _ => by rw [Nat.zero_add])
    have hc := ctB_le (tb (f i)) 64
    rw [caF, bc_ct, show 64 * (n + 1) = 64 + 64 * n by omega, nx_app, e2]
    rw [Nat.add_zero] at e1
    by_cases q : k < ctB (tb (f i)) 64
    · rw [if_pos (nI_lt q (by omega))]
      cases h : nx (tb (f i)) 64 0 k with
      | none => rw [nx_none, e3] at h; omega
      | some j =>
        rw [e1, h, baF_nx _ _ _ _ j hk h, nI_add]
        show _ = nI (64 * i + j)
        rw [Nat.mul_comm]
    · rw [if_neg (nI_nlt (by omega) hk), pk_sub (by omega)]
      cases h : nx (tb (f i)) 64 0 k with
      | some j =>
        have : ¬ nx (tb (f i)) 64 0 k = none := by rw [h]; simp
        rw [nx_none, e3] at this
        omega
      | none =>
        rw [e1, h]
        show _ = nxV (nx (wbt f) (64 * n) (64 * i + 64) (k - ctB (tb (f i)) 64))
        rw [caF_nx f n (i + 1) _ (by omega) (by omega), show 64 * (i + 1) = 64 * i + 64 by omega]
theorem ntI_nx (x : Int32) : ∀ n b k, k < 2 ^ 31 → b + n ≤ 32 → (∀ j, nx (ib x) n b k = some j → (ntI x n b (nI k)).1 = some j) ∧ (nx (ib x) n b k = none → ntI x n b (nI k) = (none, nI (k - ctF (ib x) b n)))
  | 0, b, k, _, _ => by
    refine ⟨fun j h => ?_, fun _ => ?_⟩
    · cases h
    · unfold ctF
      rfl
  | n + 1, b, k, hk, hb => by
    rw [nx, ntI, ib_v x (by omega), ctF_s]
    by_cases hp : ib x b = true
    · rw [if_pos hp, if_pos hp]
      by_cases h0 : k = 0
      · subst h0
        rw [if_pos rfl, if_pos (by decide)]
        exact ⟨fun j h => by cases h; rfl, fun h => by cases h⟩
      · rw [if_neg h0, pk_sub (by omega), if_neg (nI_pos (by omega))]
        have := ntI_nx x n (b + 1) (k - 1) (by omega) (by omega)
        rw [show k - 1 - ctF (ib x) (b + 1) n = k - (1 + ctF (ib x) (b + 1) n) by omega] at this
        exact this
    · rw [if_neg hp, if_neg hp, pk_sub (Nat.zero_le _), Nat.sub_zero, if_neg (nI_pos hk), Nat.zero_add]
      exact ntI_nx x n (b + 1) k hk (by omega)
theorem ntO_nx (f : Nat → Int32) : ∀ n i k, k < 2 ^ 31 → i + n ≤ 8192 → ntO f n i (nI k) = nxV (nx (ibt f) (32 * n) (32 * i) k)
  | 0, i, k, _, _ => rfl
  | n + 1, i, k, hk, hn => by
    have hb : ∀ j, j < 32 → ibt f (32 * i + (0 + j)) = ib (f i) (0 + j) := fun j hj => by
      unfold ibt
      rw [show (32 * i + (0 + j)) / 32 = i by omega, show (32 * i + (0 + j)) % 32 = 0 + j by omega]
    have e1 := nx_sh (p := ibt f) (r := ib (f i)) (a := 32 * i) 32 0 k hb
    have e2 : ctF (ibt f) (32 * i) 32 = ctF (ib (f i)) 0 32 := by
      unfold ctF
      exact ctB_eq (fun j hj => by have := hb j hj; rw [Nat.zero_add] at this ⊢; exact this)
    have ih : ∀ k', k' < 2 ^ 31 → ntO f n (i + 1) (nI k') = nxV (nx (ibt f) (32 * n) (32 * i + 32) k') := fun k' h' => by rw [ntO_nx f n (i + 1) k' h' (by omega), show 32 * (i + 1) = 32 * i + 32 by omega]
    rw [Nat.add_zero] at e1
    rw [show 32 * (n + 1) = 32 + 32 * n by omega, nx_app, e1, e2, ntO]
    obtain ⟨g1, g2⟩ := ntI_nx (f i) 32 0 k hk (by omega)
    split
    · rename_i hz
      have z : ctF (ib (f i)) 0 32 = 0 := by
        unfold ctF
        exact ct_zero (fun j _ => by rw [hz]; exact ib_zero _)
      have hN : nx (ib (f i)) 32 0 k = none := (nx_none _ _ _ _).mpr (by omega)
      rw [hN, z, ih k hk]
      rfl
    · cases h : nx (ib (f i)) 32 0 k with
      | some j =>
        have h1 := g1 j h
        obtain ⟨y, hy⟩ : ∃ y, ntI (f i) 32 0 (nI k) = (some j, y) := ⟨(ntI (f i) 32 0 (nI k)).2, by rw [← h1]⟩
        rw [hy]
        show nI (i / 16 * 512 + i % 16 * 32 + j) = nI (32 * i + j)
        congr 1
        omega
      | none =>
        rw [g2 h]
        exact ih _ (by omega)
