theorem mup_bx (G : Gm) (S : St) (j : Nat) (f : Nat → UInt32) : mup G S (bxU S (va_up (bxS S) j f)) 2 j (.inl (g_cy G 0, 6, .inr (.inr (.inl f)))) := by
  refine ⟨?_, fun i' j' hj h => ?_⟩
  · simp [memK, bx_bx, va_up_self]
  · match i', hj, h with
    | 0, _, _ => rfl
    | 1, _, _ => rfl
    | 2, hj, h =>
      have q : j' ≠ j := fun z => h ⟨rfl, z⟩
      simp [memK, bx_bx, va_up_ne _ _ q]
    | 3, _, _ => rfl
    | 4, _, _ => rfl
    | 5, _, _ => rfl
    | 6, _, _ => rfl
    | 7, _, _ => rfl
    | 8, _, _ => rfl
    | 9, _, _ => rfl
    | 10, _, _ => rfl
    | 11, _, _ => rfl
    | 12, _, _ => rfl
    | 13, _, _ => rfl
    | 14, _, _ => rfl
    | n + 15, hj, _ => exact absurd hj (Nat.not_lt_zero _)
theorem mup_gr (G : Gm) (S : St) (k : Nat) (v : Int32) : mup G S (grU S (va_up (grS S) k v)) 4 k (.inr (0, [.ref (g_ad G 1 (2 * k + 2)), .ref (g_ad G 1 (2 * k + 3)), .int (v), .int (mkS S k), .int (bI (thS S k)), .int (bI (tcS S k))])) := by
  refine ⟨?_, fun i' j' hj h => ?_⟩
  · simp [memK, gr_gr, mk_gr, th_gr, tc_gr, va_up_self]
  · match i', hj, h with
    | 0, _, _ => rfl
    | 1, _, _ => rfl
    | 2, _, _ => rfl
    | 3, _, _ => rfl
    | 4, hj, h =>
      have q : j' ≠ k := fun z => h ⟨rfl, z⟩
      simp [memK, gr_gr, mk_gr, th_gr, tc_gr, va_up_ne _ _ q]
    | 5, _, _ => rfl
    | 6, _, _ => rfl
    | 7, _, _ => rfl
    | 8, _, _ => rfl
    | 9, _, _ => rfl
    | 10, _, _ => rfl
    | 11, _, _ => rfl
    | 12, _, _ => rfl
    | 13, _, _ => rfl
    | 14, _, _ => rfl
    | n + 15, hj, _ => exact absurd hj (Nat.not_lt_zero _)
theorem mup_mk (G : Gm) (S : St) (k : Nat) (v : Int32) : mup G S (mkU S (va_up (mkS S) k v)) 4 k (.inr (0, [.ref (g_ad G 1 (2 * k + 2)), .ref (g_ad G 1 (2 * k + 3)), .int (grS S k), .int (v), .int (bI (thS S k)), .int (bI (tcS S k))])) := by
  refine ⟨?_, fun i' j' hj h => ?_⟩
  · simp [memK, gr_mk, mk_mk, th_mk, tc_mk, va_up_self]
  · match i', hj, h with
    | 0, _, _ => rfl
    | 1, _, _ => rfl
    | 2, _, _ => rfl
    | 3, _, _ => rfl
    | 4, hj, h =>
      have q : j' ≠ k := fun z => h ⟨rfl, z⟩
      simp [memK, gr_mk, mk_mk, th_mk, tc_mk, va_up_ne _ _ q]
    | 5, _, _ => rfl
    | 6, _, _ => rfl
    | 7, _, _ => rfl
    | 8, _, _ => rfl
    | 9, _, _ => rfl
    | 10, _, _ => rfl
    | 11, _, _ => rfl
    | 12, _, _ => rfl
    | 13, _, _ => rfl
    | 14, _, _ => rfl
    | n + 15, hj, _ => exact absurd hj (Nat.not_lt_zero _)
theorem mup_th (G : Gm) (S : St) (k : Nat) (v : Bool) : mup G S (thU S (va_up (thS S) k v)) 4 k (.inr (0, [.ref (g_ad G 1 (2 * k + 2)), .ref (g_ad G 1 (2 * k + 3)), .int (grS S k), .int (mkS S k), .int (bI v), .int (bI (tcS S k))])) := by
  refine ⟨?_, fun i' j' hj h => ?_⟩
  · simp [memK, gr_th, mk_th, th_th, tc_th, va_up_self]
  · match i', hj, h with
    | 0, _, _ => rfl
    | 1, _, _ => rfl
    | 2, _, _ => rfl
    | 3, _, _ => rfl
    | 4, hj, h =>
      have q : j' ≠ k := fun z => h ⟨rfl, z⟩
      simp [memK, gr_th, mk_th, th_th, tc_th, va_up_ne _ _ q]
    | 5, _, _ => rfl
    | 6, _, _ => rfl
    | 7, _, _ => rfl
    | 8, _, _ => rfl
    | 9, _, _ => rfl
    | 10, _, _ => rfl
    | 11, _, _ => rfl
    | 12, _, _ => rfl
    | 13, _, _ => rfl
    | 14, _, _ => rfl
    | n + 15, hj, _ => exact absurd hj (Nat.not_lt_zero _)
theorem mup_tc (G : Gm) (S : St) (k : Nat) (v : Bool) : mup G S (tcU S (va_up (tcS S) k v)) 4 k (.inr (0, [.ref (g_ad G 1 (2 * k + 2)), .ref (g_ad G 1 (2 * k + 3)), .int (grS S k), .int (mkS S k), .int (bI (thS S k)), .int (bI v)])) := by
  refine ⟨?_, fun i' j' hj h => ?_⟩
  · simp [memK, gr_tc, mk_tc, th_tc, tc_tc, va_up_self]
  · match i', hj, h with
    | 0, _, _ => rfl
    | 1, _, _ => rfl
    | 2, _, _ => rfl
    | 3, _, _ => rfl
    | 4, hj, h =>
      have q : j' ≠ k := fun z => h ⟨rfl, z⟩
      simp [memK, gr_tc, mk_tc, th_tc, tc_tc, va_up_ne _ _ q]
    | 5, _, _ => rfl
    | 6, _, _ => rfl
    | 7, _, _ => rfl
    | 8, _, _ => rfl
    | 9, _, _ => rfl
    | 10, _, _ => rfl
    | 11, _, _ => rfl
    | 12, _, _ => rfl
    | 13, _, _ => rfl
    | 14, _, _ => rfl
    | n + 15, hj, _ => exact absurd hj (Nat.not_lt_zero _)
theorem mup_ps (G : Gm) (S : St) (j : Nat) (v : Int32) : mup G S (psU S (va_up (psS S) j v)) 5 j (.inr (2, [.ref (g_ad G 6 j), .int v])) := by
  refine ⟨?_, fun i' j' hj h => ?_⟩
  · simp [memK, ps_ps, va_up_self]
  · match i', hj, h with
    | 0, _, _ => rfl
    | 1, _, _ => rfl
    | 2, _, _ => rfl
    | 3, _, _ => rfl
    | 4, _, _ => rfl
    | 5, hj, h =>
      have q : j' ≠ j := fun z => h ⟨rfl, z⟩
      simp [memK, ps_ps, va_up_ne _ _ q]
    | 6, _, _ => rfl
    | 7, _, _ => rfl
    | 8, _, _ => rfl
    | 9, _, _ => rfl
    | 10, _, _ => rfl
    | 11, _, _ => rfl
    | 12, _, _ => rfl
    | 13, _, _ => rfl
    | 14, _, _ => rfl
    | n + 15, hj, _ => exact absurd hj (Nat.not_lt_zero _)
theorem mup_pw (G : Gm) (S : St) (j : Nat) (f : Nat → Int64) : mup G S (pwU S (va_up (pwS S) j f)) 6 j (.inl (g_cy G 2, 4096, .inr (.inl f))) := by
  refine ⟨?_, fun i' j' hj h => ?_⟩
  · simp [memK, pw_pw, va_up_self]
  · match i', hj, h with
    | 0, _, _ => rfl
    | 1, _, _ => rfl
    | 2, _, _ => rfl
    | 3, _, _ => rfl
    | 4, _, _ => rfl
    | 5, _, _ => rfl
    | 6, hj, h =>
      have q : j' ≠ j := fun z => h ⟨rfl, z⟩
      simp [memK, pw_pw, va_up_ne _ _ q]
    | 7, _, _ => rfl
    | 8, _, _ => rfl
    | 9, _, _ => rfl
    | 10, _, _ => rfl
    | 11, _, _ => rfl
    | 12, _, _ => rfl
    | 13, _, _ => rfl
    | 14, _, _ => rfl
    | n + 15, hj, _ => exact absurd hj (Nat.not_lt_zero _)
theorem mup_fb (G : Gm) (S : St) (f : Nat → Int32) : mup G S (fbU S f) 7 0 (.inl (g_cy G 1, 512, .inl f)) := by
  refine ⟨?_, fun i' j' hj h => ?_⟩
  · rfl
  · match i', hj, h with
    | 0, _, _ => rfl
    | 1, _, _ => rfl
    | 2, _, _ => rfl
    | 3, _, _ => rfl
    | 4, _, _ => rfl
    | 5, _, _ => rfl
    | 6, _, _ => rfl
    | 7, hj, h =>
      exact absurd ⟨rfl, Nat.lt_one_iff.mp hj⟩ h
    | 8, _, _ => rfl
    | 9, _, _ => rfl
    | 10, _, _ => rfl
    | 11, _, _ => rfl
    | 12, _, _ => rfl
    | 13, _, _ => rfl
    | 14, _, _ => rfl
    | n + 15, hj, _ => exact absurd hj (Nat.not_lt_zero _)
theorem mup_ff (G : Gm) (S : St) (f : Nat → UInt32) : mup G S (ffU S f) 8 0 (.inl (g_cy G 0, 512, .inr (.inr (.inl f)))) := by
  refine ⟨?_, fun i' j' hj h => ?_⟩
  · rfl
  · match i', hj, h with
    | 0, _, _ => rfl
    | 1, _, _ => rfl
    | 2, _, _ => rfl
    | 3, _, _ => rfl
    | 4, _, _ => rfl
    | 5, _, _ => rfl
    | 6, _, _ => rfl
    | 7, _, _ => rfl
    | 8, hj, h =>
      exact absurd ⟨rfl, Nat.lt_one_iff.mp hj⟩ h
    | 9, _, _ => rfl
    | 10, _, _ => rfl
    | 11, _, _ => rfl
    | 12, _, _ => rfl
    | 13, _, _ => rfl
    | 14, _, _ => rfl
    | n + 15, hj, _ => exact absurd hj (Nat.not_lt_zero _)
theorem mup_nf0 (G : Gm) (S : St) (v : Int32) : mup G S (nfU S (va_up (nfS S) 0 v)) 0 0 (.inr (3, [.ref (g_ad G 1 0), .ref (g_ad G 3 0), .int (v), .ref (g_ad G 5 (ipS S).1), .ref (g_ad G 5 (ipS S).2), .ref (g_ad G 5 2), .ref (g_ad G 5 3), .int (nfS S 1), .ref (g_ad G 7 0), .ref (g_ad G 8 0), .int (nfS S 2), .ref (g_ad G 1 1)])) := by
  refine ⟨?_, fun i' j' hj h => ?_⟩
  · rfl
  · match i', hj, h with
    | 0, hj, h =>
      exact absurd ⟨rfl, Nat.lt_one_iff.mp hj⟩ h
    | 1, _, _ => rfl
    | 2, _, _ => rfl
    | 3, _, _ => rfl
    | 4, _, _ => rfl
    | 5, _, _ => rfl
    | 6, _, _ => rfl
    | 7, _, _ => rfl
    | 8, _, _ => rfl
    | 9, _, _ => rfl
    | 10, _, _ => rfl
    | 11, _, _ => rfl
    | 12, _, _ => rfl
    | 13, _, _ => rfl
    | 14, _, _ => rfl
    | n + 15, hj, _ => exact absurd hj (Nat.not_lt_zero _)
theorem mup_nf1 (G : Gm) (S : St) (v : Int32) : mup G S (nfU S (va_up (nfS S) 1 v)) 0 0 (.inr (3, [.ref (g_ad G 1 0), .ref (g_ad G 3 0), .int (nfS S 0), .ref (g_ad G 5 (ipS S).1), .ref (g_ad G 5 (ipS S).2), .ref (g_ad G 5 2), .ref (g_ad G 5 3), .int (v), .ref (g_ad G 7 0), .ref (g_ad G 8 0), .int (nfS S 2), .ref (g_ad G 1 1)])) := by
  refine ⟨?_, fun i' j' hj h => ?_⟩
  · rfl
  · match i', hj, h with
    | 0, hj, h =>
      exact absurd ⟨rfl, Nat.lt_one_iff.mp hj⟩ h
    | 1, _, _ => rfl
    | 2, _, _ => rfl
    | 3, _, _ => rfl
    | 4, _, _ => rfl
    | 5, _, _ => rfl
    | 6, _, _ => rfl
    | 7, _, _ => rfl
    | 8, _, _ => rfl
    | 9, _, _ => rfl
    | 10, _, _ => rfl
    | 11, _, _ => rfl
    | 12, _, _ => rfl
    | 13, _, _ => rfl
    | 14, _, _ => rfl
    | n + 15, hj, _ => exact absurd hj (Nat.not_lt_zero _)
theorem mup_nf2 (G : Gm) (S : St) (v : Int32) : mup G S (nfU S (va_up (nfS S) 2 v)) 0 0 (.inr (3, [.ref (g_ad G 1 0), .ref (g_ad G 3 0), .int (nfS S 0), .ref (g_ad G 5 (ipS S).1), .ref (g_ad G 5 (ipS S).2), .ref (g_ad G 5 2), .ref (g_ad G 5 3), .int (nfS S 1), .ref (g_ad G 7 0), .ref (g_ad G 8 0), .int (v), .ref (g_ad G 1 1)])) := by
  refine ⟨?_, fun i' j' hj h => ?_⟩
  · rfl
  · match i', hj, h with
    | 0, hj, h =>
      exact absurd ⟨rfl, Nat.lt_one_iff.mp hj⟩ h
    | 1, _, _ => rfl
    | 2, _, _ => rfl
    | 3, _, _ => rfl
    | 4, _, _ => rfl
    | 5, _, _ => rfl
    | 6, _, _ => rfl
    | 7, _, _ => rfl
    | 8, _, _ => rfl
    | 9, _, _ => rfl
    | 10, _, _ => rfl
    | 11, _, _ => rfl
    | 12, _, _ => rfl
    | 13, _, _ => rfl
    | 14, _, _ => rfl
    | n + 15, hj, _ => exact absurd hj (Nat.not_lt_zero _)
theorem mup_ip1 (G : Gm) (S : St) (a : Nat) : mup G S (ipU S (a, (ipS S).2)) 0 0 (.inr (3, [.ref (g_ad G 1 0), .ref (g_ad G 3 0), .int (nfS S 0), .ref (g_ad G 5 a), .ref (g_ad G 5 (ipS S).2), .ref (g_ad G 5 2), .ref (g_ad G 5 3), .int (nfS S 1), .ref (g_ad G 7 0), .ref (g_ad G 8 0), .int (nfS S 2), .ref (g_ad G 1 1)])) := by
  refine ⟨?_, fun i' j' hj h => ?_⟩
  · rfl
  · match i', hj, h with
    | 0, hj, h =>
      exact absurd ⟨rfl, Nat.lt_one_iff.mp hj⟩ h
    | 1, _, _ => rfl
    | 2, _, _ => rfl
    | 3, _, _ => rfl
    | 4, _, _ => rfl
    | 5, _, _ => rfl
    | 6, _, _ => rfl
    | 7, _, _ => rfl
    | 8, _, _ => rfl
    | 9, _, _ => rfl
    | 10, _, _ => rfl
    | 11, _, _ => rfl
    | 12, _, _ => rfl
    | 13, _, _ => rfl
    | 14, _, _ => rfl
    | n + 15, hj, _ => exact absurd hj (Nat.not_lt_zero _)
theorem mup_ip2 (G : Gm) (S : St) (a : Nat) : mup G S (ipU S ((ipS S).1, a)) 0 0 (.inr (3, [.ref (g_ad G 1 0), .ref (g_ad G 3 0), .int (nfS S 0), .ref (g_ad G 5 (ipS S).1), .ref (g_ad G 5 a), .ref (g_ad G 5 2), .ref (g_ad G 5 3), .int (nfS S 1), .ref (g_ad G 7 0), .ref (g_ad G 8 0), .int (nfS S 2), .ref (g_ad G 1 1)])) := by
  refine ⟨?_, fun i' j' hj h => ?_⟩
  · rfl
  · match i', hj, h with
    | 0, hj, h =>
      exact absurd ⟨rfl, Nat.lt_one_iff.mp hj⟩ h
    | 1, _, _ => rfl
    | 2, _, _ => rfl
    | 3, _, _ => rfl
    | 4, _, _ => rfl
    | 5, _, _ => rfl
    | 6, _, _ => rfl
    | 7, _, _ => rfl
    | 8, _, _ => rfl
    | 9, _, _ => rfl
    | 10, _, _ => rfl
    | 11, _, _ => rfl
    | 12, _, _ => rfl
    | 13, _, _ => rfl
    | 14, _, _ => rfl
    | n + 15, hj, _ => exact absurd hj (Nat.not_lt_zero _)
theorem mup_mF (G : Gm) (S : St) (j : Nat) (f : Nat → UInt32) : mup G S (mFU S (va_up (mFS S) j f)) 10 j (.inl (g_cy G 0, lnF j, .inr (.inr (.inl f)))) := by
  refine ⟨?_, fun i' j' hj h => ?_⟩
  · simp [memK, mF_mF, va_up_self]
  · match i', hj, h with
    | 0, _, _ => rfl
    | 1, _, _ => rfl
    | 2, _, _ => rfl
    | 3, _, _ => rfl
    | 4, _, _ => rfl
    | 5, _, _ => rfl
    | 6, _, _ => rfl
    | 7, _, _ => rfl
    | 8, _, _ => rfl
    | 9, _, _ => rfl
    | 10, hj, h =>
      have q : j' ≠ j := fun z => h ⟨rfl, z⟩
      simp [memK, mF_mF, va_up_ne _ _ q]
    | 11, _, _ => rfl
    | 12, _, _ => rfl
    | 13, _, _ => rfl
    | 14, _, _ => rfl
    | n + 15, hj, _ => exact absurd hj (Nat.not_lt_zero _)
theorem mup_mI (G : Gm) (S : St) (j : Nat) (f : Nat → Int32) : mup G S (mIU S (va_up (mIS S) j f)) 11 j (.inl (g_cy G 1, lnI j, .inl f)) := by
  refine ⟨?_, fun i' j' hj h => ?_⟩
  · simp [memK, mI_mI, va_up_self]
  · match i', hj, h with
    | 0, _, _ => rfl
    | 1, _, _ => rfl
    | 2, _, _ => rfl
    | 3, _, _ => rfl
    | 4, _, _ => rfl
    | 5, _, _ => rfl
    | 6, _, _ => rfl
    | 7, _, _ => rfl
    | 8, _, _ => rfl
    | 9, _, _ => rfl
    | 10, _, _ => rfl
    | 11, hj, h =>
      have q : j' ≠ j := fun z => h ⟨rfl, z⟩
      simp [memK, mI_mI, va_up_ne _ _ q]
    | 12, _, _ => rfl
    | 13, _, _ => rfl
    | 14, _, _ => rfl
    | n + 15, hj, _ => exact absurd hj (Nat.not_lt_zero _)
theorem mup_mZ (G : Gm) (S : St) (j k : Nat) (b : Bool) : mup G S (mZU S (va_up (mZS S) j (va_up (mZS S j) k b))) 12 j (.inl (g_cy G 3, 512, .inl (va_up (fun q => bI (mZS S j q)) k (bI b)))) := by
  refine ⟨?_, fun i' j' hj h => ?_⟩
  · simp only [memK, mZ_mZ, va_up_self]; congr 4; funext q; by_cases hq : q = k <;> simp [va_up, hq]
  · match i', hj, h with
    | 0, _, _ => rfl
    | 1, _, _ => rfl
    | 2, _, _ => rfl
    | 3, _, _ => rfl
    | 4, _, _ => rfl
    | 5, _, _ => rfl
    | 6, _, _ => rfl
    | 7, _, _ => rfl
    | 8, _, _ => rfl
    | 9, _, _ => rfl
    | 10, _, _ => rfl
    | 11, _, _ => rfl
    | 12, hj, h =>
      have q : j' ≠ j := fun z => h ⟨rfl, z⟩
      simp [memK, mZ_mZ, va_up_ne _ _ q]
    | 13, _, _ => rfl
    | 14, _, _ => rfl
    | n + 15, hj, _ => exact absurd hj (Nat.not_lt_zero _)
theorem mup_mn0 (G : Gm) (S : St) (v : Int32) : mup G S (mnU S (va_up (mnS S) 0 v)) 9 0 (.inr (4, [.int (v), .ref (g_ad G 10 0), .ref (g_ad G 12 0), .ref (g_ad G 12 1), .ref (g_ad G 11 0), .ref (g_ad G 11 1), .ref (g_ad G 10 1), .ref (g_ad G 10 2), .ref (g_ad G 11 2), .ref (g_ad G 11 3), .ref (g_ad G 11 4), .ref (g_ad G 11 5), .int (mnS S 1), .int (mnS S 2), .ref (g_ad G 11 6), .ref (g_ad G 10 3), .ref (g_ad G 10 4)])) := by
  refine ⟨?_, fun i' j' hj h => ?_⟩
  · rfl
  · match i', hj, h with
    | 0, _, _ => rfl
    | 1, _, _ => rfl
    | 2, _, _ => rfl
    | 3, _, _ => rfl
    | 4, _, _ => rfl
    | 5, _, _ => rfl
    | 6, _, _ => rfl
    | 7, _, _ => rfl
    | 8, _, _ => rfl
    | 9, hj, h =>
      exact absurd ⟨rfl, Nat.lt_one_iff.mp hj⟩ h
    | 10, _, _ => rfl
    | 11, _, _ => rfl
    | 12, _, _ => rfl
    | 13, _, _ => rfl
    | 14, _, _ => rfl
    | n + 15, hj, _ => exact absurd hj (Nat.not_lt_zero _)
theorem mup_mn1 (G : Gm) (S : St) (v : Int32) : mup G S (mnU S (va_up (mnS S) 1 v)) 9 0 (.inr (4, [.int (mnS S 0), .ref (g_ad G 10 0), .ref (g_ad G 12 0), .ref (g_ad G 12 1), .ref (g_ad G 11 0), .ref (g_ad G 11 1), .ref (g_ad G 10 1), .ref (g_ad G 10 2), .ref (g_ad G 11 2), .ref (g_ad G 11 3), .ref (g_ad G 11 4), .ref (g_ad G 11 5), .int (v), .int (mnS S 2), .ref (g_ad G 11 6), .ref (g_ad G 10 3), .ref (g_ad G 10 4)])) := by
  refine ⟨?_, fun i' j' hj h => ?_⟩
  · rfl
  · match i', hj, h with
    | 0, _, _ => rfl
    | 1, _, _ => rfl
    | 2, _, _ => rfl
    | 3, _, _ => rfl
    | 4, _, _ => rfl
    | 5, _, _ => rfl
    | 6, _, _ => rfl
    | 7, _, _ => rfl
    | 8, _, _ => rfl
    | 9, hj, h =>
      exact absurd ⟨rfl, Nat.lt_one_iff.mp hj⟩ h
    | 10, _, _ => rfl
    | 11, _, _ => rfl
    | 12, _, _ => rfl
    | 13, _, _ => rfl
    | 14, _, _ => rfl
    | n + 15, hj, _ => exact absurd hj (Nat.not_lt_zero _)
theorem mup_mn2 (G : Gm) (S : St) (v : Int32) : mup G S (mnU S (va_up (mnS S) 2 v)) 9 0 (.inr (4, [.int (mnS S 0), .ref (g_ad G 10 0), .ref (g_ad G 12 0), .ref (g_ad G 12 1), .ref (g_ad G 11 0), .ref (g_ad G 11 1), .ref (g_ad G 10 1), .ref (g_ad G 10 2), .ref (g_ad G 11 2), .ref (g_ad G 11 3), .ref (g_ad G 11 4), .ref (g_ad G 11 5), .int (mnS S 1), .int (v), .ref (g_ad G 11 6), .ref (g_ad G 10 3), .ref (g_ad G 10 4)])) := by
  refine ⟨?_, fun i' j' hj h => ?_⟩
  · rfl
  · match i', hj, h with
    | 0, _, _ => rfl
    | 1, _, _ => rfl
    | 2, _, _ => rfl
    | 3, _, _ => rfl
    | 4, _, _ => rfl
    | 5, _, _ => rfl
    | 6, _, _ => rfl
    | 7, _, _ => rfl
    | 8, _, _ => rfl
    | 9, hj, h =>
      exact absurd ⟨rfl, Nat.lt_one_iff.mp hj⟩ h
    | 10, _, _ => rfl
    | 11, _, _ => rfl
    | 12, _, _ => rfl
    | 13, _, _ => rfl
    | 14, _, _ => rfl
    | n + 15, hj, _ => exact absurd hj (Nat.not_lt_zero _)
theorem mup_ou (G : Gm) (S : St) (f : Nat → Int64) : mup G S (ouU S f) 13 0 (.inl (g_cy G 2, 1, .inr (.inl f))) := by
  refine ⟨?_, fun i' j' hj h => ?_⟩
  · rfl
  · match i', hj, h with
    | 0, _, _ => rfl
    | 1, _, _ => rfl
    | 2, _, _ => rfl
    | 3, _, _ => rfl
    | 4, _, _ => rfl
    | 5, _, _ => rfl
    | 6, _, _ => rfl
    | 7, _, _ => rfl
    | 8, _, _ => rfl
    | 9, _, _ => rfl
    | 10, _, _ => rfl
    | 11, _, _ => rfl
    | 12, _, _ => rfl
    | 13, hj, h =>
      exact absurd ⟨rfl, Nat.lt_one_iff.mp hj⟩ h
    | 14, _, _ => rfl
    | n + 15, hj, _ => exact absurd hj (Nat.not_lt_zero _)
theorem mup_od (G : Gm) (S : St) (f : Nat → UInt64) : mup G S (odU S f) 14 0 (.inl (g_cy G 4, 1, .inr (.inr (.inr (.inl f))))) := by
  refine ⟨?_, fun i' j' hj h => ?_⟩
  · rfl
  · match i', hj, h with
    | 0, _, _ => rfl
    | 1, _, _ => rfl
    | 2, _, _ => rfl
    | 3, _, _ => rfl
    | 4, _, _ => rfl
    | 5, _, _ => rfl
    | 6, _, _ => rfl
    | 7, _, _ => rfl
    | 8, _, _ => rfl
    | 9, _, _ => rfl
    | 10, _, _ => rfl
    | 11, _, _ => rfl
    | 12, _, _ => rfl
    | 13, _, _ => rfl
    | 14, hj, h =>
      exact absurd ⟨rfl, Nat.lt_one_iff.mp hj⟩ h
    | n + 15, hj, _ => exact absurd hj (Nat.not_lt_zero _)
def fGt (x y : UInt32) : Bool := FP.fcmp x y == some .gt
def fLt (x y : UInt32) : Bool := FP.fcmp x y == some .lt
def fEq (x y : UInt32) : Bool := FP.fcmp x y == some .eq
def fLe (x y : UInt32) : Bool := fLt x y || fEq x y
def fGe (x y : UInt32) : Bool := fGt x y || fEq x y
section FR
variable {p : Program} {l : Launch} {e : Env} {R : Room} {s : State} {m : MethodId} {args : Array Value} {below : List Frame} {meth : Method} {c : Code} {H : Heap} {locs : List Loc} {cells slots : Nat} {Q : State → Prop}
variable {cc : ByteArray} {pc : Nat} {ls : Array Slot} {rest : List Value}
theorem fc_lle (hx : p.tables.exec = Jvm.exec) (hb : c.code = cc) {x y : UInt32} {off : Int} {tgt : Nat} (h1 : decode cc pc = .ok (.fcmp .l, 1)) (h2 : decode cc (pc + 1) = .ok (.ifCond .le off, 3)) (ht : ((pc + 1 : Nat) : Int) + off = (tgt : Int))
    (kt : fGt x y = false → W p l e R s m args below meth c H locs cells slots Q (F0 m tgt ls rest)) (kf : fGt x y = true → W p l e R s m args below meth c H locs cells slots Q (F0 m (pc + 4) ls rest)) : W p l e R s m args below meth c H locs cells slots Q (F0 m pc ls (.float y :: .float x :: rest)) := by
  refine lv_fcmp hx hb h1 ?_
  refine lv_if_le (tgt := tgt) hx hb h2 ht (fun h => kt ?_) (fun h => kf ?_)
  all_goals
    unfold fGt
    revert h
    generalize FP.fcmp x y = r
    rcases r with _ | (_ | _ | _) <;> decide
theorem fc_gge (hx : p.tables.exec = Jvm.exec) (hb : c.code = cc) {x y : UInt32} {off : Int} {tgt : Nat} (h1 : decode cc pc = .ok (.fcmp .g, 1)) (h2 : decode cc (pc + 1) = .ok (.ifCond .ge off, 3)) (ht : ((pc + 1 : Nat) : Int) + off = (tgt : Int))
    (kt : fLt x y = false → W p l e R s m args below meth c H locs cells slots Q (F0 m tgt ls rest)) (kf : fLt x y = true → W p l e R s m args below meth c H locs cells slots Q (F0 m (pc + 4) ls rest)) : W p l e R s m args below meth c H locs cells slots Q (F0 m pc ls (.float y :: .float x :: rest)) := by
  refine lv_fcmp hx hb h1 ?_
  refine lv_if_ge (tgt := tgt) hx hb h2 ht (fun h => kt ?_) (fun h => kf ?_)
  all_goals
    unfold fLt
    revert h
    generalize FP.fcmp x y = r
    rcases r with _ | (_ | _ | _) <;> decide
theorem fc_llt (hx : p.tables.exec = Jvm.exec) (hb : c.code = cc) {x y : UInt32} {off : Int} {tgt : Nat} (h1 : decode cc pc = .ok (.fcmp .l, 1)) (h2 : decode cc (pc + 1) = .ok (.ifCond .lt off, 3)) (ht : ((pc + 1 : Nat) : Int) + off = (tgt : Int))
    (kt : fGe x y = false → W p l e R s m args below meth c H locs cells slots Q (F0 m tgt ls rest)) (kf : fGe x y = true → W p l e R s m args below meth c H locs cells slots Q (F0 m (pc + 4) ls rest)) : W p l e R s m args below meth c H locs cells slots Q (F0 m pc ls (.float y :: .float x :: rest)) := by
  refine lv_fcmp hx hb h1 ?_
  refine lv_if_lt (tgt := tgt) hx hb h2 ht (fun h => kt ?_) (fun h => kf ?_)
  all_goals
    unfold fGe fGt fEq
    revert h
    generalize FP.fcmp x y = r
    rcases r with _ | (_ | _ | _) <;> decide
theorem fc_ggt (hx : p.tables.exec = Jvm.exec) (hb : c.code = cc) {x y : UInt32} {off : Int} {tgt : Nat} (h1 : decode cc pc = .ok (.fcmp .g, 1)) (h2 : decode cc (pc + 1) = .ok (.ifCond .gt off, 3)) (ht : ((pc + 1 : Nat) : Int) + off = (tgt : Int))
    (kt : fLe x y = false → W p l e R s m args below meth c H locs cells slots Q (F0 m tgt ls rest)) (kf : fLe x y = true → W p l e R s m args below meth c H locs cells slots Q (F0 m (pc + 4) ls rest)) : W p l e R s m args below meth c H locs cells slots Q (F0 m pc ls (.float y :: .float x :: rest)) := by
  refine lv_fcmp hx hb h1 ?_
  refine lv_if_gt (tgt := tgt) hx hb h2 ht (fun h => kt ?_) (fun h => kf ?_)
  all_goals
    unfold fLe fLt fEq
    revert h
    generalize FP.fcmp x y = r
    rcases r with _ | (_ | _ | _) <;> decide
theorem fc_lne (hx : p.tables.exec = Jvm.exec) (hb : c.code = cc) {x y : UInt32} {off : Int} {tgt : Nat} (h1 : decode cc pc = .ok (.fcmp .l, 1)) (h2 : decode cc (pc + 1) = .ok (.ifCond .ne off, 3)) (ht : ((pc + 1 : Nat) : Int) + off = (tgt : Int))
    (kt : fEq x y = false → W p l e R s m args below meth c H locs cells slots Q (F0 m tgt ls rest)) (kf : fEq x y = true → W p l e R s m args below meth c H locs cells slots Q (F0 m (pc + 4) ls rest)) : W p l e R s m args below meth c H locs cells slots Q (F0 m pc ls (.float y :: .float x :: rest)) := by
  refine lv_fcmp hx hb h1 ?_
  refine lv_if_ne (tgt := tgt) hx hb h2 ht (fun h => kt ?_) (fun h => kf ?_)
  all_goals
    unfold fEq
    revert h
    generalize FP.fcmp x y = r
    rcases r with _ | (_ | _ | _) <;> decide
theorem fc_leq (hx : p.tables.exec = Jvm.exec) (hb : c.code = cc) {x y : UInt32} {off : Int} {tgt : Nat} (h1 : decode cc pc = .ok (.fcmp .l, 1)) (h2 : decode cc (pc + 1) = .ok (.ifCond .eq off, 3)) (ht : ((pc + 1 : Nat) : Int) + off = (tgt : Int))
    (kt : fEq x y = true → W p l e R s m args below meth c H locs cells slots Q (F0 m tgt ls rest)) (kf : fEq x y = false → W p l e R s m args below meth c H locs cells slots Q (F0 m (pc + 4) ls rest)) : W p l e R s m args below meth c H locs cells slots Q (F0 m pc ls (.float y :: .float x :: rest)) := by
  refine lv_fcmp hx hb h1 ?_
  refine lv_if_eq (tgt := tgt) hx hb h2 ht (fun h => kt ?_) (fun h => kf ?_)
  all_goals
    unfold fEq
    revert h
    generalize FP.fcmp x y = r
    rcases r with _ | (_ | _ | _) <;> decide
theorem top_i {x y : Int32} (h : x = y) (k : W p l e R s m args below meth c H locs cells slots Q (F0 m pc ls (.int y :: rest))) : W p l e R s m args below meth c H locs cells slots Q (F0 m pc ls (.int x :: rest)) := h ▸ k
theorem top_f {x y : UInt32} (h : x = y) (k : W p l e R s m args below meth c H locs cells slots Q (F0 m pc ls (.float y :: rest))) : W p l e R s m args below meth c H locs cells slots Q (F0 m pc ls (.float x :: rest)) := h ▸ k
theorem top_l {x y : Int64} (h : x = y) (k : W p l e R s m args below meth c H locs cells slots Q (F0 m pc ls (.long y :: rest))) : W p l e R s m args below meth c H locs cells slots Q (F0 m pc ls (.long x :: rest)) := h ▸ k
end FR
