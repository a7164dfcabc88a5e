/-! low, high, filter, the asking calls -/
def cdX (E1 : String) (x : Option String) : Int32 := match x with
  | none => nI 0
  | some e => if e = E1 then nI 1 else nI 2
/-- the state behind a call that may throw -/
def enS (x : Option String) (SX S1 : St) : St := match x with
  | none => S1
  | some _ => SX
theorem gs_v (T : St) (a b : Bool) : mnS (gsS T a b) 0 = gsV a b := rfl
theorem up3_cong {f g : Nat → UInt32} {q : Nat} {x y z : UInt32} (e : ∀ k, k < 6 → f k = g k) : ∀ k, k < 6 → va_up (va_up (va_up f q x) (q + 1) y) (q + 2) z k = va_up (va_up (va_up g q x) (q + 1) y) (q + 2) z k := by
  intro k hk
  unfold va_up
  rw [e k hk]
theorem up3_gb {f : Nat → UInt32} {q : Nat} {x y z : UInt32} (e : Gb f) (hx : Mg 142 x) (hy : Mg 142 y) (hz : Mg 142 z) : Gb (va_up (va_up (va_up f q x) (q + 1) y) (q + 2) z) := by
  intro k hk
  unfold va_up
  split
  · exact hz
  · split
    · exact hy
    · split
      · exact hx
      · exact e k hk
theorem r_pad {S T : St} (h : Rel S T) (q : Nat) (x y z : UInt32) : mnS (pcM T q x y z) 0 = cdX xA (goodX x y z) ∧ Rel (enS (goodX x y z) S (pcS S q x y z)) (pcM T q x y z) := by
  have e : g3F x y z = (wiF x (nI 16384) && (wiF y (nI 16384) && wiF z (nI 16384))) := by unfold g3F; rw [go_wi, go_wi, go_wi]
  unfold goodX pcM
  rw [← e]
  by_cases hg : g3F x y z = true
  · rw [if_pos hg, if_pos hg, hg]
    refine ⟨rfl, ?_⟩
    rw [e] at hg
    simp only [Bool.and_eq_true] at hg
    refine h.bodyP (S' := pcS S q x y z) rfl ⟨?_, ?_⟩ rfl (h.2.1.tr rfl (fun j hj k _ => ?_) rfl) (fun b _ => Unt.kc rfl (fun j hj k _ => ?_)) h.2.2.1
    · intro k hk
      unfold pcS
      rw [bx_s]
      exact up3_cong h.1.1 k hk
    · unfold pcS
      rw [bx_s]
      exact up3_gb h.1.2 (wi16 hg.1) (wi16 hg.2.1) (wi16 hg.2.2)
    · unfold pcS; rw [bx_ne _ _ (by omega)]
    · unfold pcS; rw [bx_ne _ _ (by omega)]
  · rw [if_neg hg, if_neg hg]
    have hf : g3F x y z = false := by simpa using hg
    rw [hf]
    exact ⟨rfl, h.gs _ _⟩
theorem kw_kn {S T : St} (h : RBod S T) (k : Int32) : kwF T k = knI S k := by
  unfold kwF knI
  by_cases q : bnF k = true
  · obtain ⟨j, hj, rfl⟩ := bn_nat q
    rw [kN_nI (by omega), (h j hj).1.1]
  · have : bnF k = false := by simpa using q
    rw [this]
    rfl
theorem r_filter {S T : St} (h : Rel S T) (k g m : Int32) : mnS (fiMS T k g m) 0 = cdX xI (thereX S k) ∧ Rel (enS (thereX S k) S (flS S (kN k) g m)) (fiMS T k g m) := by
  unfold fiMS thereX
  rw [Bool.and_true, kw_kn h.2.1]
  by_cases hk : knI S k = true
  · rw [if_pos hk, if_pos hk]
    refine ⟨rfl, ?_⟩
    refine h.body (S' := flS S (kN k) g m) rfl rfl rfl rfl (fun b hb => ?_) (fun b hb q => ?_) h.2.2.1
    · obtain ⟨⟨a1, a2⟩, ⟨a3, a4⟩, ⟨a5, a6⟩, a7, a8⟩ := h.2.1 b hb
      refine ⟨⟨a1, ?_⟩, ⟨?_, ?_⟩, ⟨a5, a6⟩, a7, a8⟩
      · show va_up (tcS S) (kN k) true b = va_up (mZS T 1) (kN k) true b
        unfold va_up; rw [a2]
      · show va_up (grS S) (kN k) g b = va_up (mIS T 0) (kN k) g b
        unfold va_up; rw [a3]
      · show va_up (mkS S) (kN k) m b = va_up (mIS T 1) (kN k) m b
        unfold va_up; rw [a4]
    · have q : va_up (tcS S) (kN k) true b = false := q
      by_cases e : b = kN k
      · subst e; rw [va_up_self] at q; cases q
      · rw [va_up_ne _ _ e] at q
        exact ⟨q, rfl, va_up_ne _ _ e, va_up_ne _ _ e, fun _ _ => rfl⟩
  · have hf : knI S k = false := by simpa using hk
    rw [if_neg hk, if_neg hk, hf]
    exact ⟨rfl, h.gs _ _⟩
theorem r_found {S T : St} (h : Rel S T) (k : Int32) : mnS (fdMS T k) 0 = cdX xI (foundX S k) ∧ (foundX S k = none → fdMI T k = fbS S (kN k) ∧ whMI T k = ffS S (kN k) ∧ vf_n32 (ffS S (kN k))) ∧ Rel S (fdMS T k) := by
  obtain ⟨c, hc, e1, e2, e3⟩ := h.2.2.2.2.2.1
  have e : fdB T k = true ↔ foundX S k = none := by
    unfold fdB foundX
    rw [e1, e2]
    by_cases q : k < 0
    · simp [q]
    · by_cases q2 : k < nI c
      · simp [q, q2]
      · simp [q, q2]
  unfold fdMS fdMI whMI
  rw [gs_v, Bool.and_true]
  refine ⟨?_, fun hn => ?_, h.gs _ _⟩
  · by_cases q : foundX S k = none
    · rw [e.mpr q, q]; rfl
    · have : fdB T k = false := by simpa using fun z => q (e.mp z)
      rw [this]
      unfold foundX at q ⊢
      by_cases q0 : k < 0
      · rw [if_pos q0]; rfl
      · rw [if_neg q0] at q ⊢
        by_cases q1 : k < nfS S 2
        · rw [if_pos q1] at q; exact absurd rfl q
        · rw [if_neg q1]; rfl
  · rw [if_pos (e.mpr hn), if_pos (e.mpr hn)]
    obtain ⟨j, hj, rfl⟩ := found_n e1 hc hn
    rw [kN_nI (by omega)]
    exact ⟨(e3 j hj).1.symm, (e3 j hj).2.1.symm, (e3 j hj).2.2⟩
theorem nr_in (f : Nat → UInt32) : ∀ n i b, b < i + n → i ≤ i + n → nrB f n i b < i + n
  | 0, i, b, h, _ => h
  | n + 1, i, b, h, _ => by
    rw [nrB]
    have := nr_in f n (i + 1) (if fLt (f i) (f b) = true then i else b) (by split <;> omega) (by omega)
    omega
theorem nr_cong {f g : Nat → UInt32} : ∀ n i b, b < i + n → (∀ k, k < i + n → f k = g k) → nrB f n i b = nrB g n i b
  | 0, _, _, _, _ => rfl
  | n + 1, i, b, h, e => by
    rw [nrB, nrB, e i (by omega), e b (by omega)]
    exact nr_cong n (i + 1) _ (by split <;> omega) (fun k hk => e k (by omega))
theorem r_nearest {S T : St} (h : Rel S T) {c : Nat} (hc : c ≤ 512) (e1 : nfS S 2 = nI c) : nrM T c = nrF S c ∧ Rel S (nrMS T) := by
  obtain ⟨c', hc', e1', e2, e3⟩ := h.2.2.2.2.2.1
  obtain rfl : c' = c := (nI_eq (by omega) (by omega)).mp (e1'.symm.trans e1)
  refine ⟨?_, h.trT rfl rfl rfl⟩
  unfold nrM nrF
  by_cases q : c' = 0
  · rw [if_pos q, if_pos q]
  · rw [if_neg q, if_neg q, nr_cong (f := mFS T 3) (g := ffS S) (c' - 1) 1 0 (by omega) (fun k hk => ((e3 k (by omega)).2.1).symm)]
    have := nr_in (ffS S) (c' - 1) 1 0 (by omega) (by omega)
    exact (e3 _ (by omega)).1.symm
theorem th_nat {S : St} {k : Int32} (h : knI S k = true) : ∃ j, j < 512 ∧ k = nI j ∧ thS S j = true := there_n (by unfold thereX; rw [if_pos h])
theorem wh_b {wh : Int32} {n : Nat} (hn : n + 1 < 2 ^ 31) : whX wh (nI (n + 1)) = if (!(decide (wh < 0)) && !(decide (nI n < wh))) = true then none else some xI := by
  unfold whX
  by_cases q : wh < 0
  · simp [q]
  · rw [if_neg q]
    obtain ⟨j, hj, rfl⟩ := nI_of q
    by_cases q2 : j < n + 1
    · rw [if_pos (nI_lt q2 hn), if_pos]
      simp [q, nI_nlt (show j ≤ n by omega) (by omega)]
    · rw [if_neg (nI_nlt (by omega) hj), if_neg]
      simp [q, nI_lt (show n < j by omega) hj]
theorem two_v {a b : Bool} {E : String} : gsV (a && b) true = cdX E (orX (if a = true then none else some E) (if b = true then none else some E)) := by
  cases a <;> cases b <;> simp [gsV, cdX, orX]
theorem or_none {a b : Option String} : orX a b = none ↔ a = none ∧ b = none := by
  cases a <;> cases b <;> simp [orX]
theorem r_corner {S T : St} (h : Rel S T) (k wh : Int32) : mnS (coMS T k wh) 0 = cdX xI (orX (thereX S k) (whX wh (nI 12))) ∧ (orX (thereX S k) (whX wh (nI 12)) = none → coM T k wh = cnF S k wh ∧ vf_n32 (cnF S k wh)) ∧ Rel S (coMS T k wh) := by
  rw [wh_b (n := 11) (by decide)]
  unfold coMS coM thereX
  rw [gs_v, Bool.and_true, kw_kn h.2.1]
  refine ⟨two_v, fun hn => ?_, h.gs _ _⟩
  obtain ⟨h1, h2⟩ := or_none.mp hn
  have h1 : knI S k = true := by
    by_cases q : knI S k = true
    · exact q
    · rw [if_neg q] at h1; cases h1
  have h2 : (!(decide (wh < 0)) && !(decide (nI 11 < wh))) = true := by
    by_cases q : (!(decide (wh < 0)) && !(decide (nI 11 < wh))) = true
    · exact q
    · rw [if_neg q] at h2; cases h2
  rw [h1, h2]
  obtain ⟨j, hj, rfl, -⟩ := th_nat h1
  obtain ⟨w, hw, rfl⟩ := wh_nat (by decide) h2
  obtain ⟨-, -, ⟨a5, a6⟩, a7, a8⟩ := h.2.1 j hj
  unfold cnF
  rw [kN_nI (show j < 65536 by omega), kN_nI (show w < 65536 by omega)]
  by_cases q : w < 6
  · rw [if_pos (show (true && true) = true from rfl), if_pos (nI_lt q (by decide)), if_pos (nI_lt q (by decide))]
    exact ⟨(a6 w q).symm, (a8 w q).v (by decide)⟩
  · rw [if_pos (show (true && true) = true from rfl), if_neg (nI_nlt (by omega) (by omega)), if_neg (nI_nlt (by omega) (by omega)), show 6 * j + w - 6 = 6 * j + (w - 6) by omega]
    exact ⟨(a5 (w - 6) (by omega)).symm, (a7 (w - 6) (by omega)).v (by decide)⟩
